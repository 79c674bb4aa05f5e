theorem wAll_f {d : Td} {hs s h : Nat} (hf : wAll d hs s h = false) : ∀ n, h ≤ n → wAll d hs s n = false
  | 0, hn => by
    have : h = 0 := by omega
    subst this
    exact hf
  | n + 1, hn => by
    by_cases e : h = n + 1
    · subst e
      exact hf
    · rw [wAll, wAll_f hf n (by omega)]
      rfl

theorem l_X12_isWatched2 {Q : Rq} {M : Mem} {d : Td} {hs s : Nat} (h5 : ∀ k, k < 521 → M.1 5 k = nI (d k)) (wf : Wf d) (hss : s < 64) (hhs : hs < 16777216) (k : Q (some (.int (r_b (wAll d hs s 24)))) GY M) : ∀ (w h : Nat), 24 - h = w → h ≤ 24 → wAll d hs s h = true → Ru 2 mt_X12_isWatched r_z 2 [(3, some (.int (nI h))), (0, some (.ref 0)), (1, some (.int (nI hs))), (2, some (.int (nI s)))] [] GY M Q := by
  intro w
  have hb := wf.1
  induction w using Nat.strongRecOn with
  | ind w ih =>
    intro h hw hh e1
    subst hw
    refine Ru_iload_n (pc := 2) dX12_isWatched_2 rfl rfl ?_
    refine Ru_bipush (pc := 3) (nI 24) dX12_isWatched_3 rfl ?_
    refine Ru_icmp_geN (pc := 5) 87 dX12_isWatched_5 (by decide) (by omega) (fun h1 => ?_) (fun h1 => ?_)
    · refine Ru_iconst (pc := 87) (nI 1) dX12_isWatched_87 rfl ?_
      refine Ru_zret (pc := 88) dX12_isWatched_88 rfl ⟨Nat.le_refl _, Nat.le_refl _⟩ (Or.inr rfl) ?_
      have eh : h = 24 := by omega
      subst eh
      exact r_qe (r_b_t e1) k
    · refine Ru_iload_n (pc := 8) dX12_isWatched_8 rfl rfl ?_
      refine Ru_iload_n (pc := 9) dX12_isWatched_9 rfl rfl ?_
      refine Ru_ishrN (pc := 10) dX12_isWatched_10 (by omega) ?_
      refine Ru_iconst (pc := 11) (nI 1) dX12_isWatched_11 rfl ?_
      refine Ru_iandN (pc := 12) dX12_isWatched_12 ?_
      refine Ru_if_neN (pc := 13) 20 dX12_isWatched_13 (by decide) (Nat.lt_of_le_of_lt Nat.and_le_right (by decide)) (fun h2 => ?_) (fun h2 => ?_)
      · refine Ru_iconst (pc := 20) (nI 0) dX12_isWatched_20 rfl ?_
        refine Ru_istore (pc := 21) dX12_isWatched_21 rfl (by decide) ?_
        refine Ru_iconst (pc := 23) (nI 0) dX12_isWatched_23 rfl ?_
        refine Ru_istore (pc := 24) dX12_isWatched_24 rfl (by decide) ?_
        have hbit : hs.testBit h = true := by
          have hq := r_bit_and1 hs h
          cases hz : hs.testBit h
          all_goals first | rfl | (exfalso; simp_all; done)
        refine Ru_weak (l_X12_isWatched1 (b := false) h5 wf hss (by omega) ?_ (d 2) 0 rfl (by omega)) rfl
        refine Ru_iload (pc := 74) dX12_isWatched_74 rfl ?_
        refine Ru_if_neB (pc := 76) 81 dX12_isWatched_76 (by decide) (fun h3 => ?_) (fun h3 => ?_)
        · refine Ru_iincN (pc := 81) 1 dX12_isWatched_81 rfl rfl rfl (by decide) ?_
          refine Ru_goto (pc := 84) 2 dX12_isWatched_84 (by decide) ?_
          refine Ru_weak (ih (24 - (h + 1)) (by omega) (h + 1) rfl (by omega) ?_) rfl
          rw [wAll, e1, hbit]
          simp_all
        · refine Ru_iconst (pc := 79) (nI 0) dX12_isWatched_79 rfl ?_
          refine Ru_zret (pc := 80) dX12_isWatched_80 rfl ⟨Nat.le_refl _, Nat.le_refl _⟩ (Or.inl rfl) ?_
          refine r_qe (r_b_f (wAll_f (h := h + 1) ?_ 24 (by omega))) k
          rw [wAll, e1, hbit]
          simp_all
      · refine Ru_iconst (pc := 16) (nI 1) dX12_isWatched_16 rfl ?_
        refine Ru_goto (pc := 17) 21 dX12_isWatched_17 (by decide) ?_
        refine Ru_istore (pc := 21) dX12_isWatched_21 rfl (by decide) ?_
        refine Ru_iconst (pc := 23) (nI 0) dX12_isWatched_23 rfl ?_
        refine Ru_istore (pc := 24) dX12_isWatched_24 rfl (by decide) ?_
        have hbit : hs.testBit h = false := by
          have hq := r_bit_and1 hs h
          cases hz : hs.testBit h
          all_goals first | rfl | (exfalso; simp_all; done)
        refine Ru_weak (l_X12_isWatched1 (b := true) h5 wf hss (by omega) ?_ (d 2) 0 rfl (by omega)) rfl
        refine Ru_iload (pc := 74) dX12_isWatched_74 rfl ?_
        refine Ru_if_neB (pc := 76) 81 dX12_isWatched_76 (by decide) (fun h4 => ?_) (fun h4 => ?_)
        · refine Ru_iincN (pc := 81) 1 dX12_isWatched_81 rfl rfl rfl (by decide) ?_
          refine Ru_goto (pc := 84) 2 dX12_isWatched_84 (by decide) ?_
          refine Ru_weak (ih (24 - (h + 1)) (by omega) (h + 1) rfl (by omega) ?_) rfl
          rw [wAll, e1, hbit]
          simp_all
        · refine Ru_iconst (pc := 79) (nI 0) dX12_isWatched_79 rfl ?_
          refine Ru_zret (pc := 80) dX12_isWatched_80 rfl ⟨Nat.le_refl _, Nat.le_refl _⟩ (Or.inl rfl) ?_
          refine r_qe (r_b_f (wAll_f (h := h + 1) ?_ 24 (by omega))) k
          rw [wAll, e1, hbit]
          simp_all

theorem c_X12_isWatched {Q : Rq} {M : Mem} {d : Td} {hs s : Nat} (h5 : ∀ k, k < 521 → M.1 5 k = nI (d k)) (wf : Wf d) (hss : s < 64) (hhs : hs < 16777216) (k : Q (some (.int (r_b (wAll d hs s 24)))) GY M) : Ca 2 mt_X12_isWatched 0 0 [.ref 0, .int (nI hs), .int (nI s)] GY M Q := by
  refine Ca_of rfl (Nat.le_of_ble_eq_true rfl) ?_
  refine Ru_iconst (pc := 0) (nI 0) dX12_isWatched_0 rfl ?_
  refine Ru_istore_n (pc := 1) dX12_isWatched_1 rfl rfl (by decide) ?_
  exact Ru_weak (l_X12_isWatched2 h5 wf hss hhs k 24 0 rfl (by omega) rfl) rfl
