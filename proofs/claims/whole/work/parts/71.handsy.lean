-- HANDS: the reference
theorem hM_in {d : Td} {x : Nat → Nat} {C m : Nat} {w : Nat → Nat} (h : hBy d x C (d (29 + m)) = m + 1) : hM d x C w m = w m := if_pos h
theorem hM_out {d : Td} {x : Nat → Nat} {C m : Nat} {w : Nat → Nat} (h : ¬ hBy d x C (d (29 + m)) = m + 1) : hM d x C w m = 0 := if_neg h
theorem hM_le {d : Td} {x : Nat → Nat} {C B : Nat} {w : Nat → Nat} (hw : ∀ m, m < d 1 → w m ≤ B) (m : Nat) : hM d x C w m ≤ B := by
  unfold hM
  split
  · rename_i h
    exact hw _ (hBy_ok h).1
  · exact Nat.zero_le _
/-- what the reference has of the MAKINGS on its way -/
def hMk (d : Td) (x : Nat → Nat) (nd mk : Nat) : Prop := ∀ m, mk.testBit m = true → ∃ t, nd.testBit t = true ∧ sFirst d x t = m + 1 ∧ ∀ k, (sNd d m).testBit k = true → nd.testBit k = true
theorem hMk_add {d : Td} {x : Nat → Nat} {nd mk t m : Nat} (h : hMk d x nd mk) (ht : nd.testBit t = true) (hm : sFirst d x t = m + 1) : hMk d x (nd ||| sNd d m) (mk ||| 2 ^ m) := by
  intro m' hb
  rw [Nat.testBit_or, Bool.or_eq_true] at hb
  rcases hb with hb | hb
  · obtain ⟨t', h1, h2, h3⟩ := h m' hb
    refine ⟨t', by rw [Nat.testBit_or, h1]; rfl, h2, fun k hk => by rw [Nat.testBit_or, h3 k hk]; rfl⟩
  · rw [Nat.testBit_two_pow] at hb
    have e : m = m' := of_decide_eq_true hb
    subst e
    exact ⟨t, by rw [Nat.testBit_or, ht]; rfl, hm, fun k hk => by rw [Nat.testBit_or, hk, Bool.or_true]⟩
theorem hMk_end {d : Td} (wf : Wf d) {x : Nat → Nat} {s nd mk : Nat} (hss : s < 2 ^ d 0) (h1 : ∀ t, s.testBit t = true → nd.testBit t = true) (h2 : ∀ t, nd.testBit t = true → (hAll d x s).testBit t = true) (h3 : hMk d x nd mk) (h4 : ∀ t, nd.testBit t = true → ∃ m, sFirst d x t = m + 1 ∧ mk.testBit m = true) (m : Nat) : mk.testBit m = true ↔ hBy d x (hAll d x s) (d (29 + m)) = m + 1 := by
  have sub : ∀ t, (hAll d x s).testBit t = true → nd.testBit t = true := by
    intro t ht
    refine aRnd_P (nb := hNb d x) (n := d 0) (P := fun t => nd.testBit t = true) (fun t h5 k hk => ?_) h1 (d 0) t ht
    obtain ⟨m1, e1, e2⟩ := h4 t h5
    rw [hNb_of e1] at hk
    obtain ⟨t2, _, _, e5⟩ := h3 m1 e2
    exact e5 k hk
  constructor
  · intro hb
    obtain ⟨t, e1, e2, _⟩ := h3 m hb
    have e3 := (sFirst_ok e2).2.1
    unfold hBy
    rw [e3, if_pos (h2 t e1)]
    exact e2
  · intro hb
    unfold hBy at hb
    split at hb
    · rename_i e1
      obtain ⟨m1, e2, e3⟩ := h4 _ (sub _ e1)
      rw [hb] at e2
      have e4 : m = m1 := by omega
      rw [e4]
      exact e3
    · omega
theorem tb_lt {a b n t : Nat} (h : ∀ t, a.testBit t = true → b.testBit t = true) (ht : t < n) (h1 : a.testBit t = false) (h2 : b.testBit t = true) : cn (tb a) n < cn (tb b) n := cn_lt n (fun t _ => h t) ⟨t, ht, h2, h1⟩

theorem l_X12_makingsOf1 {Q : Rq} {M : Mem} {d : Td} {s c0 : Nat} {x : Nat → Nat} (hc : ∀ k, k < 521 → M.1 5 k = nI (d k)) (wf : Wf d) (hb15 : ∀ k, k < 8 → M.1 15 k = nM (sFirst d x k)) (hss : s < 2 ^ d 0) (hfin : ∀ t, (hAll d x s).testBit t = true → sFirst d x t ≠ 0) (k : ∀ (nd mk : Nat) (c : Bool), ((∀ t, s.testBit t = true → nd.testBit t = true) ∧ (∀ t, nd.testBit t = true → (hAll d x s).testBit t = true) ∧ hMk d x nd mk ∧ nd < 2 ^ d 0 ∧ mk < 2 ^ 12) → c0 ≤ cn (tb mk) 12 → (c = true → c0 < cn (tb mk) 12) → (c = false → ∀ q, q < d 0 → nd.testBit q = true → ∃ m, sFirst d x q = m + 1 ∧ mk.testBit m = true) → Ru 1 mt_X12_makingsOf r_z 7 [(2, some (.int (nI nd))), (3, some (.int (nI mk))), (4, some (.int (r_b c))), (0, some (.ref 0)), (1, some (.int (nI s)))] [] GY M Q) : ∀ (w : Nat) (p : Nat) (nd : Nat) (mk : Nat) (c : Bool), d 0 - p = w → (p ≤ d 0) → ((∀ t, s.testBit t = true → nd.testBit t = true) ∧ (∀ t, nd.testBit t = true → (hAll d x s).testBit t = true) ∧ hMk d x nd mk ∧ nd < 2 ^ d 0 ∧ mk < 2 ^ 12) → (c0 ≤ cn (tb mk) 12) → (c = true → c0 < cn (tb mk) 12) → ((c = false → ∀ q, q < p → nd.testBit q = true → ∃ m, sFirst d x q = m + 1 ∧ mk.testBit m = true)) → Ru 1 mt_X12_makingsOf r_z 18 [(2, some (.int (nI nd))), (3, some (.int (nI mk))), (4, some (.int (r_b c))), (5, some (.int (nI p))), (0, some (.ref 0)), (1, some (.int (nI s)))] [] GY M Q := by
  intro w
  induction w using Nat.strongRecOn with
  | ind w ih =>
    intro p nd mk c hw hn hI hle hlt hD
    subst hw
    have hb := wf.1
    have hp := pw_le hb.1
    have hnd := hI.2.2.2.1
    have hmk := hI.2.2.2.2
    have e12 : (2 : Nat) ^ 12 = 4096 := rfl
    refine Ru_iload (pc := 18) dX12_makingsOf_18 rfl ?_
    refine Ru_aload_n (pc := 20) dX12_makingsOf_20 rfl rfl ?_
    refine Ru_getR (pc := 21) 5 dX12_makingsOf_21 fl_X12_35 rfl rfl rfl ?_
    refine Ru_iconst (pc := 24) (nI 0) dX12_makingsOf_24 rfl ?_
    refine Ru_iald (pc := 25) dX12_makingsOf_25 rfl (by omega) ?_
    refine Ru_top (hc 0 (by omega)) ?_
    refine Ru_icmp_geN (pc := 26) 90 dX12_makingsOf_26 (by decide) (by omega) (fun h1 => ?_) (fun h1 => ?_)
    · refine Ru_goto (pc := 90) 7 dX12_makingsOf_90 (by decide) ?_
      have ep : p = d 0 := by omega
      subst ep
      exact Ru_weak (k nd mk c hI hle hlt hD) rfl
    · refine Ru_iload_n (pc := 29) dX12_makingsOf_29 rfl rfl ?_
      refine Ru_iload (pc := 30) dX12_makingsOf_30 rfl ?_
      refine Ru_cs2 (pc := 32) dX12_makingsOf_32 ms_X12_372 (by decide) (Nat.le_of_ble_eq_true rfl) (c_X12_has (by omega) (by omega) ?_) 
      refine Ru_if_eqB (pc := 35) 84 dX12_makingsOf_35 (by decide) (fun h2 => ?_) (fun h2 => ?_)
      · refine Ru_iincN (pc := 84) 1 dX12_makingsOf_84 rfl rfl rfl (by decide) ?_
        refine Ru_goto (pc := 87) 18 dX12_makingsOf_87 (by decide) ?_
        have hD2 : c = false → ∀ q, q < p + 1 → nd.testBit q = true → ∃ m, sFirst d x q = m + 1 ∧ mk.testBit m = true := fun z q hq hbq => by
          by_cases e : q = p
          · subst e
            simp_all
          · exact hD z q (by omega) hbq
        exact Ru_weak (ih (d 0 - (p + 1)) (by omega) (p + 1) nd mk c rfl (by omega) hI hle hlt hD2) rfl
      · obtain ⟨m, qz_em⟩ : ∃ m, sFirst d x p = m + 1 := ⟨sFirst d x p - 1, by have := hfin p (hI.2.1 p (by assumption)); omega⟩
        have hmm := sFirst_ok qz_em
        have hm5 := wf.2.2.2.2.1 m hmm.1
        refine Ru_iload_n (pc := 38) dX12_makingsOf_38 rfl rfl ?_
        refine Ru_aload_n (pc := 39) dX12_makingsOf_39 rfl rfl ?_
        refine Ru_getR (pc := 40) 15 dX12_makingsOf_40 fl_X12_66 rfl rfl rfl ?_
        refine Ru_iload (pc := 43) dX12_makingsOf_43 rfl ?_
        refine Ru_iald (pc := 45) dX12_makingsOf_45 rfl (by omega) ?_
        refine Ru_top ((hb15 p (by omega)).trans (by rw [qz_em])) ?_
        refine Ru_cs2 (pc := 46) dX12_makingsOf_46 ms_X12_372 (by decide) (Nat.le_of_ble_eq_true rfl) (c_X12_has (by omega) (by omega) ?_) 
        refine Ru_if_eqB (pc := 49) 55 dX12_makingsOf_49 (by decide) (fun h3 => ?_) (fun h3 => ?_)
        · refine Ru_iload_n (pc := 55) dX12_makingsOf_55 rfl rfl ?_
          refine Ru_iconst (pc := 56) (nI 1) dX12_makingsOf_56 rfl ?_
          refine Ru_aload_n (pc := 57) dX12_makingsOf_57 rfl rfl ?_
          refine Ru_getR (pc := 58) 15 dX12_makingsOf_58 fl_X12_66 rfl rfl rfl ?_
          refine Ru_iload (pc := 61) dX12_makingsOf_61 rfl ?_
          refine Ru_iald (pc := 63) dX12_makingsOf_63 rfl (by omega) ?_
          refine Ru_top ((hb15 p (by omega)).trans (by rw [qz_em])) ?_
          refine Ru_ishl1N (pc := 64) dX12_makingsOf_64 (by omega) ?_
          refine Ru_iorN (pc := 65) dX12_makingsOf_65 ?_
          refine Ru_istore_n (pc := 66) dX12_makingsOf_66 rfl rfl (by decide) ?_
          refine Ru_iload_n (pc := 67) dX12_makingsOf_67 rfl rfl ?_
          refine Ru_aload_n (pc := 68) dX12_makingsOf_68 rfl rfl ?_
          refine Ru_aload_n (pc := 69) dX12_makingsOf_69 rfl rfl ?_
          refine Ru_getR (pc := 70) 15 dX12_makingsOf_70 fl_X12_66 rfl rfl rfl ?_
          refine Ru_iload (pc := 73) dX12_makingsOf_73 rfl ?_
          refine Ru_iald (pc := 75) dX12_makingsOf_75 rfl (by omega) ?_
          refine Ru_top ((hb15 p (by omega)).trans (by rw [qz_em])) ?_
          refine Ru_cv1 (pc := 76) dX12_makingsOf_76 mv_X12_407 rfl (by decide) (Nat.le_of_ble_eq_true rfl) (c_X12_needsS hc wf (by omega) ?_) 
          refine Ru_iorN (pc := 79) dX12_makingsOf_79 ?_
          refine Ru_istore_n (pc := 80) dX12_makingsOf_80 rfl rfl (by decide) ?_
          refine Ru_iconst (pc := 81) (nI 1) dX12_makingsOf_81 rfl ?_
          refine Ru_istore (pc := 82) dX12_makingsOf_82 rfl (by decide) ?_
          refine Ru_iincN (pc := 84) 1 dX12_makingsOf_84 rfl rfl rfl (by decide) ?_
          refine Ru_goto (pc := 87) 18 dX12_makingsOf_87 (by decide) ?_
          have hI2 : (∀ t, s.testBit t = true → (nd ||| sNd d m).testBit t = true) ∧ (∀ t, (nd ||| sNd d m).testBit t = true → (hAll d x s).testBit t = true) ∧ hMk d x (nd ||| sNd d m) (mk ||| 2 ^ m) ∧ (nd ||| sNd d m) < 2 ^ d 0 ∧ (mk ||| 2 ^ m) < 2 ^ 12 := by
            refine ⟨fun t ht => by rw [Nat.testBit_or, hI.1 t ht]; rfl, fun t ht => ?_, hMk_add hI.2.2.1 (by assumption) qz_em, r_or_lt hI.2.2.2.1 (r_or_lt hm5.2.2.2.1 hm5.2.2.2.2.1), r_or_lt hI.2.2.2.2 (Nat.pow_lt_pow_right (by decide) (by omega))⟩
            rw [Nat.testBit_or, Bool.or_eq_true] at ht
            rcases ht with ht | ht
            · exact hI.2.1 t ht
            · exact hAll_cl wf hss p (hI.2.1 p (by assumption)) t (by rw [hNb_of qz_em]; exact ht)
          have hlt : cn (tb mk) 12 < cn (tb (mk ||| 2 ^ m)) 12 := tb_lt (fun t ht => by rw [Nat.testBit_or, ht]; rfl) (show m < 12 by omega) (by assumption) (by rw [Nat.testBit_or, Nat.testBit_two_pow_self, Bool.or_true])
          exact Ru_weak (ih (d 0 - (p + 1)) (by omega) (p + 1) _ _ true rfl (by omega) hI2 (by omega) (fun _ => by omega) (fun z => by cases z)) rfl
        · refine Ru_goto (pc := 52) 84 dX12_makingsOf_52 (by decide) ?_
          refine Ru_iincN (pc := 84) 1 dX12_makingsOf_84 rfl rfl rfl (by decide) ?_
          refine Ru_goto (pc := 87) 18 dX12_makingsOf_87 (by decide) ?_
          have hD2 : c = false → ∀ q, q < p + 1 → nd.testBit q = true → ∃ m, sFirst d x q = m + 1 ∧ mk.testBit m = true := fun z q hq hbq => by
            by_cases e : q = p
            · subst e
              exact ⟨m, qz_em, by assumption⟩
            · exact hD z q (by omega) hbq
          exact Ru_weak (ih (d 0 - (p + 1)) (by omega) (p + 1) nd mk c rfl (by omega) hI hle hlt hD2) rfl

theorem l_X12_makingsOf2 {Q : Rq} {M : Mem} {d : Td} {s : Nat} {x : Nat → Nat} (hc : ∀ k, k < 521 → M.1 5 k = nI (d k)) (wf : Wf d) (hb15 : ∀ k, k < 8 → M.1 15 k = nM (sFirst d x k)) (hss : s < 2 ^ d 0) (hfin : ∀ t, (hAll d x s).testBit t = true → sFirst d x t ≠ 0) (k : ∀ mk, mk < 2 ^ 12 → (∀ m, mk.testBit m = true ↔ hBy d x (hAll d x s) (d (29 + m)) = m + 1) → Q (some (.int (nI mk))) GY M)  : ∀ (w : Nat) (nd : Nat) (mk : Nat) (c : Bool), 2 * (12 - cn (tb mk) 12) + (if c = true then 1 else 0) = w → ((∀ t, s.testBit t = true → nd.testBit t = true) ∧ (∀ t, nd.testBit t = true → (hAll d x s).testBit t = true) ∧ hMk d x nd mk ∧ nd < 2 ^ d 0 ∧ mk < 2 ^ 12) → ((c = false → ∀ q, q < d 0 → nd.testBit q = true → ∃ m, sFirst d x q = m + 1 ∧ mk.testBit m = true)) → Ru 1 mt_X12_makingsOf r_z 7 [(2, some (.int (nI nd))), (3, some (.int (nI mk))), (4, some (.int (r_b c))), (0, some (.ref 0)), (1, some (.int (nI s)))] [] GY M Q := by
  intro w
  induction w using Nat.strongRecOn with
  | ind w ih =>
    intro nd mk c hw hI hD
    subst hw
    have hb := wf.1
    refine Ru_iload (pc := 7) dX12_makingsOf_7 rfl ?_
    refine Ru_if_eqB (pc := 9) 93 dX12_makingsOf_9 (by decide) (fun h1 => ?_) (fun h1 => ?_)
    · refine Ru_iload_n (pc := 93) dX12_makingsOf_93 rfl rfl ?_
      refine Ru_iret (pc := 94) dX12_makingsOf_94 rfl ⟨Nat.le_refl _, Nat.le_refl _⟩ ?_
      exact k mk hI.2.2.2.2 (hMk_end wf hss hI.1 hI.2.1 hI.2.2.1 (fun t ht => hD (by assumption) t (r_bits_lt hI.2.2.2.1 ht) ht))
    · refine Ru_iconst (pc := 12) (nI 0) dX12_makingsOf_12 rfl ?_
      refine Ru_istore (pc := 13) dX12_makingsOf_13 rfl (by decide) ?_
      refine Ru_iconst (pc := 15) (nI 0) dX12_makingsOf_15 rfl ?_
      refine Ru_istore (pc := 16) dX12_makingsOf_16 rfl (by decide) ?_
      refine Ru_weak (l_X12_makingsOf1 (c0 := cn (tb mk) 12) hc wf hb15 hss hfin (fun nd' mk' c' gI gle glt gD => ?_) (d 0) 0 nd mk false rfl (Nat.zero_le _) hI (Nat.le_refl _) (fun z => by cases z) (fun _ q hq => by omega)) rfl
      have c12 := cn_le (tb mk') 12
      refine Ru_weak (ih (2 * (12 - cn (tb mk') 12) + if c' = true then 1 else 0) ?_ nd' mk' c' rfl gI gD) rfl
      cases c'
      · simp_all
        omega
      · have := glt rfl
        simp_all
        omega

theorem c_X12_makingsOf {Q : Rq} {M : Mem} {d : Td} {s : Nat} {x : Nat → Nat} (hc : ∀ k, k < 521 → M.1 5 k = nI (d k)) (wf : Wf d) (hb15 : ∀ k, k < 8 → M.1 15 k = nM (sFirst d x k)) (hss : s < 2 ^ d 0) (hfin : ∀ t, (hAll d x s).testBit t = true → sFirst d x t ≠ 0) (k : ∀ mk, mk < 2 ^ 12 → (∀ m, mk.testBit m = true ↔ hBy d x (hAll d x s) (d (29 + m)) = m + 1) → Q (some (.int (nI mk))) GY M) : Ca 1 mt_X12_makingsOf 0 0 [.ref 0, .int (nI s)] GY M Q := by
  refine Ca_of rfl (Nat.le_of_ble_eq_true rfl) ?_
  refine Ru_iload_n (pc := 0) dX12_makingsOf_0 rfl rfl ?_
  refine Ru_istore_n (pc := 1) dX12_makingsOf_1 rfl rfl (by decide) ?_
  refine Ru_iconst (pc := 2) (nI 0) dX12_makingsOf_2 rfl ?_
  refine Ru_istore_n (pc := 3) dX12_makingsOf_3 rfl rfl (by decide) ?_
  refine Ru_iconst (pc := 4) (nI 1) dX12_makingsOf_4 rfl ?_
  refine Ru_istore (pc := 5) dX12_makingsOf_5 rfl (by decide) ?_
  exact Ru_weak (l_X12_makingsOf2 hc wf hb15 hss hfin k (2 * (12 - cn (tb 0) 12) + 1) s 0 true rfl ⟨fun t ht => ht, fun t ht => hAll_ge ht, fun m hm => by simp at hm, hss, by decide⟩ (fun z => by cases z)) rfl

theorem l_X12_hands1 {Q : Rq} {M : Mem} {d : Td} {s' : Nat} (hc : ∀ k, k < 521 → M.1 5 k = nI (d k)) (wf : Wf d) (hs8 : s' < 256) (hs : ∀ k, k < 8 → M.1 14 k = sE (sT d 0 k)) (kf : hCanB (sT d 0) s' (d 0) = false → Q (some (.int (-1))) GY (r_sI M 0 0 (nI 9))) (k : hCanB (sT d 0) s' (d 0) = true → Ru 3 mt_X12_hands r_z 79 [(0, some (.ref 0)), (1, some (.int (nI s')))] [] GY M Q) : ∀ (w : Nat) (p : Nat), d 0 - p = w → (p ≤ d 0) → (∀ q, q < p → s'.testBit q = true → sT d 0 q ≤ 24) → Ru 3 mt_X12_hands r_z 31 [(2, some (.int (nI p))), (0, some (.ref 0)), (1, some (.int (nI s')))] [] GY M Q := by
  intro w
  induction w using Nat.strongRecOn with
  | ind w ih =>
    intro p hw hn hal
    subst hw
    have hb := wf.1
    refine Ru_iload_n (pc := 31) dX12_hands_31 rfl rfl ?_
    refine Ru_aload_n (pc := 32) dX12_hands_32 rfl rfl ?_
    refine Ru_getR (pc := 33) 5 dX12_hands_33 fl_X12_35 rfl rfl rfl ?_
    refine Ru_iconst (pc := 36) (nI 0) dX12_hands_36 rfl ?_
    refine Ru_iald (pc := 37) dX12_hands_37 rfl (by omega) ?_
    refine Ru_top (hc 0 (by omega)) ?_
    refine Ru_icmp_geN (pc := 38) 79 dX12_hands_38 (by decide) (by omega) (fun h1 => ?_) (fun h1 => ?_)
    · have ep : p = d 0 := by omega
      subst ep
      exact Ru_weak (k ((hCanB_t (d 0)).mpr hal)) rfl
    · refine Ru_iload_n (pc := 41) dX12_hands_41 rfl rfl ?_
      refine Ru_iload_n (pc := 42) dX12_hands_42 rfl rfl ?_
      refine Ru_cs2 (pc := 43) dX12_hands_43 ms_X12_372 (by decide) (Nat.le_of_ble_eq_true rfl) (c_X12_has (by omega) (by omega) ?_) 
      refine Ru_if_eqB (pc := 46) 73 dX12_hands_46 (by decide) (fun h2 => ?_) (fun h2 => ?_)
      · refine Ru_iincN (pc := 73) 1 dX12_hands_73 rfl rfl rfl (by decide) ?_
        refine Ru_goto (pc := 76) 31 dX12_hands_76 (by decide) ?_
        have hal2 : ∀ q, q < p + 1 → s'.testBit q = true → sT d 0 q ≤ 24 := fun q hq hbq => by
          by_cases e : q = p
          · subst e
            simp_all
          · exact hal q (by omega) hbq
        exact Ru_weak (ih (d 0 - (p + 1)) (by omega) (p + 1) rfl (by omega) hal2) rfl
      · refine Ru_aload_n (pc := 49) dX12_hands_49 rfl rfl ?_
        refine Ru_getR (pc := 50) 14 dX12_hands_50 fl_X12_63 rfl rfl rfl ?_
        refine Ru_iload_n (pc := 53) dX12_hands_53 rfl rfl ?_
        refine Ru_iald (pc := 54) dX12_hands_54 rfl (by omega) ?_
        refine Ru_top (hs p (by omega)) ?_
        refine Ru_i2l (pc := 55) _ dX12_hands_55 rfl ?_
        refine Ru_lconst (pc := 56) 0 dX12_hands_56 rfl ?_
        refine Ru_ldc2 (pc := 57) dX12_hands_57 tw_1939 ?_
        refine Ru_cs3 (pc := 60) dX12_hands_60 ms_X12_122 (by decide) (Nat.le_of_ble_eq_true rfl) (c_X12_isIn (0) (24) rfl rfl ?_) 
        refine Ru_if_neB (pc := 63) 73 dX12_hands_63 (by decide) (fun h3 => ?_) (fun h3 => ?_)
        · replace h3 := of_decide_eq_true h3
          refine Ru_iincN (pc := 73) 1 dX12_hands_73 rfl rfl rfl (by decide) ?_
          refine Ru_goto (pc := 76) 31 dX12_hands_76 (by decide) ?_
          have hal2 : ∀ q, q < p + 1 → s'.testBit q = true → sT d 0 q ≤ 24 := fun q hq hbq => by
            by_cases e : q = p
            · subst e
              have t2 := sE_t (sT d 0 q)
              omega
            · exact hal q (by omega) hbq
          exact Ru_weak (ih (d 0 - (p + 1)) (by omega) (p + 1) rfl (by omega) hal2) rfl
        · replace h3 := of_decide_eq_false h3
          refine Ru_aload_n (pc := 66) dX12_hands_66 rfl rfl ?_
          refine Ru_bipush (pc := 67) (nI 9) dX12_hands_67 rfl ?_
          refine Ru_cv1 (pc := 69) dX12_hands_69 mv_X12_351 rfl (by decide) (Nat.le_of_ble_eq_true rfl) (c_X12_refuse ?_) 
          refine Ru_iret (pc := 72) dX12_hands_72 rfl ⟨Nat.le_refl _, Nat.le_refl _⟩ ?_
          refine kf ?_
          cases hq : hCanB (sT d 0) s' (d 0)
          · rfl
          · have hq2 := (hCanB_t (d 0)).mp hq p (by omega) (by assumption)
            have t2 := sE_t (sT d 0 p)
            omega

theorem l_X12_hands2 {Q : Rq} {M : Mem} {d : Td} {s' mk : Nat} (hc : ∀ k, k < 521 → M.1 5 k = nI (d k)) (wf : Wf d) (hmk12 : mk < 2 ^ 12) (hmk : ∀ m, mk.testBit m = true ↔ hBy d (sT d 0) (hAll d (sT d 0) s') (d (29 + m)) = m + 1) (k : Q (some (.int (nI (max (hMax d (sT d 0) s') ((hSum d (sT d 0) s' + 23) / 24))))) GY M) : ∀ (w : Nat) (m : Nat), d 1 - m = w → (m ≤ d 1) → Ru 3 mt_X12_hands r_z 93 [(2, some (.int (nI mk))), (3, some (.int (nI (sm (hM d (sT d 0) (hAll d (sT d 0) s') (hW d)) m)))), (4, some (.int (nI (mxf (hM d (sT d 0) (hAll d (sT d 0) s') (fun m => d (53 + m))) m)))), (5, some (.int (nI m))), (0, some (.ref 0)), (1, some (.int (nI s')))] [] GY M Q := by
  intro w
  induction w using Nat.strongRecOn with
  | ind w ih =>
    intro m hw hn
    subst hw
    have hb := wf.1
    have e12 : (2 : Nat) ^ 12 = 4096 := rfl
    have hsm := sm_le (hM_le (x := sT d 0) (C := hAll d (sT d 0) s') (hW_le wf)) m
    have hmx : (mxf (hM d (sT d 0) (hAll d (sT d 0) s') (fun m => d (53 + m))) m) ≤ 3 := mxf_le m (fun q _ => hM_le (fun m hm => (wf.2.2.2.2.1 m hm).2.2.1.2) q)
    refine Ru_iload (pc := 93) dX12_hands_93 rfl ?_
    refine Ru_aload_n (pc := 95) dX12_hands_95 rfl rfl ?_
    refine Ru_getR (pc := 96) 5 dX12_hands_96 fl_X12_35 rfl rfl rfl ?_
    refine Ru_iconst (pc := 99) (nI 1) dX12_hands_99 rfl ?_
    refine Ru_iald (pc := 100) dX12_hands_100 rfl (by omega) ?_
    refine Ru_top (hc 1 (by omega)) ?_
    refine Ru_icmp_geN (pc := 101) 163 dX12_hands_101 (by decide) (by omega) (fun h1 => ?_) (fun h1 => ?_)
    · refine Ru_iload (pc := 163) dX12_hands_163 rfl ?_
      refine Ru_iload_n (pc := 165) dX12_hands_165 rfl rfl ?_
      refine Ru_bipush (pc := 166) (nI 23) dX12_hands_166 rfl ?_
      refine Ru_iaddN (pc := 168) dX12_hands_168 ?_
      refine Ru_bipush (pc := 169) (nI 24) dX12_hands_169 rfl ?_
      refine Ru_idivN (pc := 171) dX12_hands_171 (by omega) ?_
      refine Ru_cs2 (pc := 172) dX12_hands_172 ms_X12_410 (by decide) (Nat.le_of_ble_eq_true rfl) (c_Y_maxN (by omega) (by omega) ?_) 
      refine Ru_iret (pc := 175) dX12_hands_175 rfl ⟨Nat.le_refl _, Nat.le_refl _⟩ ?_
      refine r_qe ?_ k
      have ep : m = d 1 := by omega
      subst ep
      rw [h_sum2 wf, h_max wf]
      rfl
    · refine Ru_iload_n (pc := 104) dX12_hands_104 rfl rfl ?_
      refine Ru_iload (pc := 105) dX12_hands_105 rfl ?_
      refine Ru_cs2 (pc := 107) dX12_hands_107 ms_X12_372 (by decide) (Nat.le_of_ble_eq_true rfl) (c_X12_has (by omega) (by omega) ?_) 
      refine Ru_if_neB (pc := 110) 116 dX12_hands_110 (by decide) (fun h2 => ?_) (fun h2 => ?_)
      · have hm5 := wf.2.2.2.2.1 m (by omega)
        refine Ru_iload_n (pc := 116) dX12_hands_116 rfl rfl ?_
        refine Ru_aload_n (pc := 117) dX12_hands_117 rfl rfl ?_
        refine Ru_getR (pc := 118) 5 dX12_hands_118 fl_X12_35 rfl rfl rfl ?_
        refine Ru_bipush (pc := 121) (nI 41) dX12_hands_121 rfl ?_
        refine Ru_iload (pc := 123) dX12_hands_123 rfl ?_
        refine Ru_iaddN (pc := 125) dX12_hands_125 ?_
        refine Ru_iald (pc := 126) dX12_hands_126 rfl (by omega) ?_
        refine Ru_top (hc (41 + m) (by omega)) ?_
        refine Ru_aload_n (pc := 127) dX12_hands_127 rfl rfl ?_
        refine Ru_getR (pc := 128) 5 dX12_hands_128 fl_X12_35 rfl rfl rfl ?_
        refine Ru_bipush (pc := 131) (nI 53) dX12_hands_131 rfl ?_
        refine Ru_iload (pc := 133) dX12_hands_133 rfl ?_
        refine Ru_iaddN (pc := 135) dX12_hands_135 ?_
        refine Ru_iald (pc := 136) dX12_hands_136 rfl (by omega) ?_
        refine Ru_top (hc (53 + m) (by omega)) ?_
        refine Ru_imulN (pc := 137) dX12_hands_137 ?_
        refine Ru_iaddN (pc := 138) dX12_hands_138 ?_
        refine Ru_istore_n (pc := 139) dX12_hands_139 rfl rfl (by decide) ?_
        refine Ru_iload (pc := 140) dX12_hands_140 rfl ?_
        refine Ru_aload_n (pc := 142) dX12_hands_142 rfl rfl ?_
        refine Ru_getR (pc := 143) 5 dX12_hands_143 fl_X12_35 rfl rfl rfl ?_
        refine Ru_bipush (pc := 146) (nI 53) dX12_hands_146 rfl ?_
        refine Ru_iload (pc := 148) dX12_hands_148 rfl ?_
        refine Ru_iaddN (pc := 150) dX12_hands_150 ?_
        refine Ru_iald (pc := 151) dX12_hands_151 rfl (by omega) ?_
        refine Ru_top (hc (53 + m) (by omega)) ?_
        refine Ru_cs2 (pc := 152) dX12_hands_152 ms_X12_410 (by decide) (Nat.le_of_ble_eq_true rfl) (c_Y_maxN (by omega) (by omega) ?_) 
        refine Ru_istore (pc := 155) dX12_hands_155 rfl (by decide) ?_
        refine Ru_iincN (pc := 157) 1 dX12_hands_157 rfl rfl rfl (by decide) ?_
        refine Ru_goto (pc := 160) 93 dX12_hands_160 (by decide) ?_
        have e1 : sm (hM d (sT d 0) (hAll d (sT d 0) s') (hW d)) (m + 1) = ((sm (hM d (sT d 0) (hAll d (sT d 0) s') (hW d)) m) + ((d (41 + m)) * (d (53 + m)))) := by
          show sm _ m + hM d (sT d 0) (hAll d (sT d 0) s') (hW d) m = _
          rw [hM_in ((hmk m).mp (by assumption))]
          rfl
        have e2 : mxf (hM d (sT d 0) (hAll d (sT d 0) s') (fun m => d (53 + m))) (m + 1) = (max (mxf (hM d (sT d 0) (hAll d (sT d 0) s') (fun m => d (53 + m))) m) (d (53 + m))) := by
          show max (mxf _ m) (hM d (sT d 0) (hAll d (sT d 0) s') (fun m => d (53 + m)) m) = _
          rw [hM_in ((hmk m).mp (by assumption))]
        have hr := ih (d 1 - (m + 1)) (by omega) (m + 1) rfl (by omega)
        rw [e1, e2] at hr
        exact Ru_weak hr rfl
      · refine Ru_goto (pc := 113) 157 dX12_hands_113 (by decide) ?_
        refine Ru_iincN (pc := 157) 1 dX12_hands_157 rfl rfl rfl (by decide) ?_
        refine Ru_goto (pc := 160) 93 dX12_hands_160 (by decide) ?_
        have e1 : sm (hM d (sT d 0) (hAll d (sT d 0) s') (hW d)) (m + 1) = (sm (hM d (sT d 0) (hAll d (sT d 0) s') (hW d)) m) := by
          show sm _ m + hM d (sT d 0) (hAll d (sT d 0) s') (hW d) m = _
          rw [hM_out (fun z => by have z2 := (hmk m).mpr z; simp_all)]
          rfl
        have e2 : mxf (hM d (sT d 0) (hAll d (sT d 0) s') (fun m => d (53 + m))) (m + 1) = (mxf (hM d (sT d 0) (hAll d (sT d 0) s') (fun m => d (53 + m))) m) := by
          show max (mxf _ m) (hM d (sT d 0) (hAll d (sT d 0) s') (fun m => d (53 + m)) m) = _
          rw [hM_out (fun z => by have z2 := (hmk m).mpr z; simp_all)]
          exact Nat.max_eq_left (Nat.zero_le _)
        have hr := ih (d 1 - (m + 1)) (by omega) (m + 1) rfl (by omega)
        rw [e1, e2] at hr
        exact Ru_weak hr rfl

theorem c_X12_hands {Q : Rq} {M : Mem} {d : Td} {s : Int32} (hy : Y_tm 0 d M) (wf : Wf d) (k : ∀ M', r_fx [(0, 0), (0, 1)] [14, 15] M M' → M'.1 0 0 = nI (g_hands d s).2 → Q (some (.int (g_hands d s).1)) GY M') : Ca 3 mt_X12_hands 0 0 [.ref 0, .int s] GY M Q := by
  refine Ca_of rfl (Nat.le_of_ble_eq_true rfl) ?_
  have hb := wf.1
  have hp := pw_le hb.1
  have hc : ∀ k, k < 521 → M.1 5 k = nI (d k) := Y_tm_z hy
  refine Ru_aload_n (pc := 0) dX12_hands_0 rfl rfl ?_
  refine Ru_iconst (pc := 1) (nI 0) dX12_hands_1 rfl ?_
  refine Ru_putI (pc := 2) rfl dX12_hands_2 fl_X12_87 rfl ?_
  refine Ru_aload_n (pc := 5) dX12_hands_5 rfl rfl ?_
  refine Ru_iconst (pc := 6) (nI 0) dX12_hands_6 rfl ?_
  refine Ru_putI (pc := 7) rfl dX12_hands_7 fl_X12_90 rfl ?_
  refine Ru_aload_n (pc := 10) dX12_hands_10 rfl rfl ?_
  refine Ru_iload_n (pc := 11) dX12_hands_11 rfl rfl ?_
  refine Ru_cv1 (pc := 12) dX12_hands_12 mv_X12_386 rfl (by decide) (Nat.le_of_ble_eq_true rfl) (c_X12_isSet (fun k hk => ((r_sI_n (by omega)).trans ((r_sI_n (by omega)).trans (hc k hk)))) wf ?_) 
  refine Ru_if_neB (pc := 15) 24 dX12_hands_15 (by decide) (fun h1 => ?_) (fun h1 => ?_)
  · replace h1 := of_decide_eq_true h1
    obtain ⟨s', hs', rfl⟩ := r_nat (x := s) (n := 256) (by omega) (by omega)
    have es := r_tn (show s' < 2147483648 by omega)
    refine Ru_aload_n (pc := 24) dX12_hands_24 rfl rfl ?_
    refine Ru_iconst (pc := 25) (nI 0) dX12_hands_25 rfl ?_
    refine Ru_cv1 (pc := 26) dX12_hands_26 mv_X12_416 rfl (by decide) (Nat.le_of_ble_eq_true rfl) (c_X12_findSoonest (fun k hk => ((r_sI_n (by omega)).trans ((r_sI_n (by omega)).trans (hc k hk)))) wf (s := 0) (Nat.two_pow_pos _) (fun M2 hs2 hb2 gx => ?_)) 
    have fx2 := ((r_fx.sI rfl (r_fx.sI rfl r_fx.rf)) : r_fx [(0, 0), (0, 1)] [14, 15] M _).tr (gx.mono rfl)
    have hc2 : ∀ k, k < 521 → M2.1 5 k = nI (d k) := fun k hk => (fx2 5 k rfl).1.trans (hc k hk)
    have hst2 : M2.1 0 0 = nI 0 := (gx 0 0 rfl).1.trans r_sI_s
    refine Ru_iconst (pc := 29) (nI 0) dX12_hands_29 rfl ?_
    refine Ru_istore_n (pc := 30) dX12_hands_30 rfl rfl (by decide) ?_
    refine Ru_weak (l_X12_hands1 hc2 wf (by omega) hs2 (fun hC => ?_) (fun hC => ?_) (d 0) 0 rfl (Nat.zero_le _) (fun q hq => by omega)) rfl
    · have e : g_hands d (nI s') = (-1, 9) := by
        unfold g_hands
        rw [if_neg (by omega), r_tnn (show s' < 2147483648 by omega), if_neg (by rw [hC]; decide)]
      rw [e] at k
      exact k _ (r_fx.sI rfl fx2) r_sI_s
    · have hfin : ∀ t, (hAll d (sT d 0) s').testBit t = true → sFirst d (sT d 0) t ≠ 0 := fun t ht => by
        have h24 := hAll_can (x := sT d 0) wf (by omega) ((hCanB_t (d 0)).mp hC) ht
        exact sFirst_ex wf (Nat.zero_testBit t) (by omega)
      refine Ru_aload_n (pc := 79) dX12_hands_79 rfl rfl ?_
      refine Ru_iload_n (pc := 80) dX12_hands_80 rfl rfl ?_
      refine Ru_cv1 (pc := 81) dX12_hands_81 mv_X12_424 rfl (by decide) (Nat.le_of_ble_eq_true rfl) (c_X12_makingsOf (x := sT d 0) hc2 wf hb2 (by omega) hfin (fun mk hmk12 hmk => ?_)) 
      refine Ru_istore_n (pc := 84) dX12_hands_84 rfl rfl (by decide) ?_
      refine Ru_iconst (pc := 85) (nI 0) dX12_hands_85 rfl ?_
      refine Ru_istore_n (pc := 86) dX12_hands_86 rfl rfl (by decide) ?_
      refine Ru_iconst (pc := 87) (nI 0) dX12_hands_87 rfl ?_
      refine Ru_istore (pc := 88) dX12_hands_88 rfl (by decide) ?_
      refine Ru_iconst (pc := 90) (nI 0) dX12_hands_90 rfl ?_
      refine Ru_istore (pc := 91) dX12_hands_91 rfl (by decide) ?_
      refine Ru_weak (l_X12_hands2 hc2 wf hmk12 hmk ?_ (d 1) 0 rfl (Nat.zero_le _)) rfl
      have e : g_hands d (nI s') = (nI (max (hMax d (sT d 0) s') ((hSum d (sT d 0) s' + 23) / 24)), 0) := by
        unfold g_hands
        rw [if_neg (by omega), r_tnn (show s' < 2147483648 by omega), if_pos hC]
      rw [e] at k
      exact k _ fx2 hst2
  · replace h1 := of_decide_eq_false h1
    refine Ru_aload_n (pc := 18) dX12_hands_18 rfl rfl ?_
    refine Ru_iconst (pc := 19) (nI 2) dX12_hands_19 rfl ?_
    refine Ru_cv1 (pc := 20) dX12_hands_20 mv_X12_351 rfl (by decide) (Nat.le_of_ble_eq_true rfl) (c_X12_refuse ?_) 
    refine Ru_iret (pc := 23) dX12_hands_23 rfl ⟨Nat.le_refl _, Nat.le_refl _⟩ ?_
    have e : g_hands d s = (-1, 2) := by
      unfold g_hands
      rw [if_pos (by omega)]
    rw [e] at k
    exact k _ (r_fx.sI rfl (r_fx.sI rfl (r_fx.sI rfl r_fx.rf))) r_sI_s
