theorem sRow_same {d : Td} {x : Nat → Nat} {m : Nat} (h : sRow d m x (d (29 + m)) ≤ sBy d (sRow d m x) m) : sRow d (m + 1) x = sRow d m x := by
  funext k
  show sUp d m (sRow d m x) k = _
  unfold sUp
  by_cases e : k = d (29 + m)
  · rw [if_pos e, e]
    omega
  · rw [if_neg e]
theorem sRow_new {d : Td} {x : Nat → Nat} {m : Nat} (h : sBy d (sRow d m x) m ≤ sRow d m x (d (29 + m))) : sRow d (m + 1) x (d (29 + m)) = sBy d (sRow d m x) m := by
  show sUp d m (sRow d m x) (d (29 + m)) = _
  unfold sUp
  rw [if_pos rfl]
  omega
theorem sRow_ne {d : Td} {x : Nat → Nat} {m : Nat} (h : sRow d m x ≠ x) : sRow d (m + 1) x ≠ x := by
  intro q
  apply h
  funext k
  have a := sUp_le d m (sRow d m x) k
  have b := sRow_le d x k m
  have c : sUp d m (sRow d m x) k = x k := congrFun q k
  omega
theorem sRow_nw {d : Td} {x : Nat → Nat} {m : Nat} (h : sBy d (sRow d m x) m < sRow d m x (d (29 + m))) : sRow d (m + 1) x ≠ x := by
  intro q
  have a := sRow_new (Nat.le_of_lt h)
  have b := sRow_le d x (d (29 + m)) m
  rw [q] at a
  omega
theorem sOk_no {d : Td} {x : Nat → Nat} {m : Nat} (h : ¬ (x (d (29 + m)) < 1000000 ∧ sBy d x m = x (d (29 + m)))) (k : Nat) : ¬ sOk d x k m = true := by
  intro q
  obtain ⟨h1, h2, h3⟩ := of_decide_eq_true q
  subst h1
  exact h ⟨h2, h3⟩
theorem sFm_no {d : Td} {x : Nat → Nat} {m : Nat} (hm : m < d 1) (h : ∀ k, ¬ sOk d x k m = true) (k : Nat) : sFm d x k (d 1 - (m + 1)) (m + 1) = sFm d x k (d 1 - m) m := by
  rw [show d 1 - m = (d 1 - (m + 1)) + 1 by omega, sFm, if_neg (h k)]

theorem l_X12_findSoonest1 {Q : Rq} {M0 : Mem} {s : Nat} (hs8 : s < 256) (k : ∀ M, (∀ k, k < 8 → M.1 14 k = sE (sZ s k)) → (∀ k, k < 8 → M.1 15 k = -1) → r_fx [] [14, 15] M0 M → Ru 2 mt_X12_findSoonest r_z 40 [(0, some (.ref 0)), (1, some (.int (nI s)))] [] GY M Q) : ∀ (w : Nat) (n : Nat) (M : Mem), 8 - n = w → (n ≤ 8) → (∀ k, k < n → M.1 14 k = sE (sZ s k)) → (∀ k, k < n → M.1 15 k = -1) → (r_fx [] [14, 15] M0 M) → Ru 2 mt_X12_findSoonest r_z 2 [(2, some (.int (nI n))), (0, some (.ref 0)), (1, some (.int (nI s)))] [] GY M Q := by
  intro w
  induction w using Nat.strongRecOn with
  | ind w ih =>
    intro n M hw hn h14 h15 fx
    subst hw
    refine Ru_iload_n (pc := 2) dX12_findSoonest_2 rfl rfl ?_
    refine Ru_bipush (pc := 3) (nI 8) dX12_findSoonest_3 rfl ?_
    refine Ru_icmp_geN (pc := 5) 40 dX12_findSoonest_5 (by decide) (by omega) (fun h1 => ?_) (fun h1 => ?_)
    · have e8 : n = 8 := by omega
      subst e8
      exact Ru_weak (k _ h14 h15 fx) rfl
    · refine Ru_aload_n (pc := 8) dX12_findSoonest_8 rfl rfl ?_
      refine Ru_getR (pc := 9) 14 dX12_findSoonest_9 fl_X12_63 rfl rfl rfl ?_
      refine Ru_iload_n (pc := 12) dX12_findSoonest_12 rfl rfl ?_
      refine Ru_iload_n (pc := 13) dX12_findSoonest_13 rfl rfl ?_
      refine Ru_iload_n (pc := 14) dX12_findSoonest_14 rfl rfl ?_
      refine Ru_cs2 (pc := 15) dX12_findSoonest_15 ms_X12_372 (by decide) (Nat.le_of_ble_eq_true rfl) (c_X12_has (by omega) (by omega) ?_) 
      refine Ru_if_eqB (pc := 18) 25 dX12_findSoonest_18 (by decide) (fun h2 => ?_) (fun h2 => ?_)
      · refine Ru_iconst (pc := 25) (-1) dX12_findSoonest_25 rfl ?_
        refine Ru_iast (pc := 26) rfl dX12_findSoonest_26 rfl (by omega) ?_
        refine Ru_aload_n (pc := 27) dX12_findSoonest_27 rfl rfl ?_
        refine Ru_getR (pc := 28) 15 dX12_findSoonest_28 fl_X12_66 rfl rfl rfl ?_
        refine Ru_iload_n (pc := 31) dX12_findSoonest_31 rfl rfl ?_
        refine Ru_iconst (pc := 32) (-1) dX12_findSoonest_32 rfl ?_
        refine Ru_iast (pc := 33) rfl dX12_findSoonest_33 rfl (by omega) ?_
        refine Ru_iincN (pc := 34) 1 dX12_findSoonest_34 rfl rfl rfl (by decide) ?_
        refine Ru_goto (pc := 37) 2 dX12_findSoonest_37 (by decide) ?_
        exact Ru_weak (ih (8 - (n + 1)) (by omega) (n + 1) _ rfl (by omega) (r_oth (by decide) (r_ext h14 (by unfold sZ; rw [if_neg (by simp_all)]; exact (sE_n (by decide)).symm))) (r_ext (r_oth (by decide) h15) rfl) (r_fx.sI rfl (r_fx.sI rfl fx))) rfl
      · refine Ru_iconst (pc := 21) (nI 0) dX12_findSoonest_21 rfl ?_
        refine Ru_goto (pc := 22) 26 dX12_findSoonest_22 (by decide) ?_
        refine Ru_iast (pc := 26) rfl dX12_findSoonest_26 rfl (by omega) ?_
        refine Ru_aload_n (pc := 27) dX12_findSoonest_27 rfl rfl ?_
        refine Ru_getR (pc := 28) 15 dX12_findSoonest_28 fl_X12_66 rfl rfl rfl ?_
        refine Ru_iload_n (pc := 31) dX12_findSoonest_31 rfl rfl ?_
        refine Ru_iconst (pc := 32) (-1) dX12_findSoonest_32 rfl ?_
        refine Ru_iast (pc := 33) rfl dX12_findSoonest_33 rfl (by omega) ?_
        refine Ru_iincN (pc := 34) 1 dX12_findSoonest_34 rfl rfl rfl (by decide) ?_
        refine Ru_goto (pc := 37) 2 dX12_findSoonest_37 (by decide) ?_
        exact Ru_weak (ih (8 - (n + 1)) (by omega) (n + 1) _ rfl (by omega) (r_oth (by decide) (r_ext h14 (by unfold sZ; rw [if_pos (by simp_all)]; exact (sE_f (by decide)).symm))) (r_ext (r_oth (by decide) h15) rfl) (r_fx.sI rfl (r_fx.sI rfl fx))) rfl

theorem l_X12_findSoonest3 {Q : Rq} {M0 : Mem} {d : Td} {s B : Nat} {x : Nat → Nat} (hc0 : ∀ k, k < 521 → M0.1 5 k = nI (d k)) (wf : Wf d) (hBB : B ≤ 900000) (hB : ∀ k, x k < 1000000 → x k ≤ B) (hle : ∀ k, x k ≤ 1000000) (k : ∀ (c : Bool) (M : Mem), (∀ k, k < 8 → M.1 14 k = sE (sRow d (d 1) x k)) → (c = true → sRow d (d 1) x ≠ x) → (c = false → sRow d (d 1) x = x) → (∀ k, k < 8 → M.1 15 k = -1) → r_fx [] [14, 15] M0 M → Ru 2 mt_X12_findSoonest r_z 42 [(2, some (.int (r_b c))), (0, some (.ref 0)), (1, some (.int (nI s)))] [] GY M Q) : ∀ (w : Nat) (m : Nat) (c : Bool) (M : Mem), d 1 - m = w → (m ≤ d 1) → (∀ k, k < 8 → M.1 14 k = sE (sRow d m x k)) → (c = true → sRow d m x ≠ x) → (c = false → sRow d m x = x) → (∀ k, k < 8 → M.1 15 k = -1) → (r_fx [] [14, 15] M0 M) → Ru 2 mt_X12_findSoonest r_z 50 [(2, some (.int (r_b c))), (3, some (.int (nI m))), (0, some (.ref 0)), (1, some (.int (nI s)))] [] GY M Q := by
  intro w
  induction w using Nat.strongRecOn with
  | ind w ih =>
    intro m c M hw hn hs hT hF h15 fx
    subst hw
    have hb := wf.1
    have hc : ∀ k, k < 521 → M.1 5 k = nI (d k) := fun k hk => (fx 5 k rfl).1.trans (hc0 k hk)
    have hB2 : ∀ k, sRow d m x k < 1000000 → sRow d m x k ≤ 990000 := fun k hk => by
      have := sRow_b wf hB m hn k hk
      omega
    have hl2 : ∀ k, sRow d m x k ≤ 1000000 := fun k => Nat.le_trans (sRow_le d x k m) (hle k)
    refine Ru_iload_n (pc := 50) dX12_findSoonest_50 rfl rfl ?_
    refine Ru_aload_n (pc := 51) dX12_findSoonest_51 rfl rfl ?_
    refine Ru_getR (pc := 52) 5 dX12_findSoonest_52 fl_X12_35 rfl rfl rfl ?_
    refine Ru_iconst (pc := 55) (nI 1) dX12_findSoonest_55 rfl ?_
    refine Ru_iald (pc := 56) dX12_findSoonest_56 rfl (by omega) ?_
    refine Ru_top (hc 1 (by omega)) ?_
    refine Ru_icmp_geN (pc := 57) 125 dX12_findSoonest_57 (by decide) (by omega) (fun h1 => ?_) (fun h1 => ?_)
    · refine Ru_goto (pc := 125) 42 dX12_findSoonest_125 (by decide) ?_
      have em : m = d 1 := by omega
      subst em
      exact Ru_weak (k c _ hs hT hF h15 fx) rfl
    · have hm5 := wf.2.2.2.2.1 m (by omega)
      refine Ru_aload_n (pc := 60) dX12_findSoonest_60 rfl rfl ?_
      refine Ru_getR (pc := 61) 5 dX12_findSoonest_61 fl_X12_35 rfl rfl rfl ?_
      refine Ru_bipush (pc := 64) (nI 29) dX12_findSoonest_64 rfl ?_
      refine Ru_iload_n (pc := 66) dX12_findSoonest_66 rfl rfl ?_
      refine Ru_iaddN (pc := 67) dX12_findSoonest_67 ?_
      refine Ru_iald (pc := 68) dX12_findSoonest_68 rfl (by omega) ?_
      refine Ru_top (hc (29 + m) (by omega)) ?_
      refine Ru_istore (pc := 69) dX12_findSoonest_69 rfl (by decide) ?_
      refine Ru_aload_n (pc := 71) dX12_findSoonest_71 rfl rfl ?_
      refine Ru_iload_n (pc := 72) dX12_findSoonest_72 rfl rfl ?_
      refine Ru_cv1 (pc := 73) dX12_findSoonest_73 mv_X12_413 rfl (by decide) (Nat.le_of_ble_eq_true rfl) (c_X12_endsSoonest (x := sRow d m x) hc wf (by omega) hs hB2 hl2 ?_) 
      refine Ru_istore (pc := 76) dX12_findSoonest_76 rfl (by decide) ?_
      refine Ru_iload (pc := 78) dX12_findSoonest_78 rfl ?_
      refine Ru_if_ltT (pc := 80) 119 dX12_findSoonest_80 (by decide) (fun h2 => ?_) (fun h2 => ?_)
      · refine Ru_iincN (pc := 119) 1 dX12_findSoonest_119 rfl rfl rfl (by decide) ?_
        refine Ru_goto (pc := 122) 50 dX12_findSoonest_122 (by decide) ?_
        have t1 := sE_t (sBy d (sRow d m x) m)
        have t2 := sE_t (sRow d m x (d (29 + m)))
        have l1 := hl2 (d (29 + m))
        have l2 : sBy d (sRow d m x) m ≤ 1000000 := Nat.min_le_left _ _
        have e : sRow d (m + 1) x = sRow d m x := sRow_same (by omega)
        exact Ru_weak (ih (d 1 - (m + 1)) (by omega) (m + 1) c _ rfl (by omega) (by rw [e]; exact hs) (by rw [e]; exact hT) (by rw [e]; exact hF) h15 fx) rfl
      · refine Ru_aload_n (pc := 83) dX12_findSoonest_83 rfl rfl ?_
        refine Ru_getR (pc := 84) 14 dX12_findSoonest_84 fl_X12_63 rfl rfl rfl ?_
        refine Ru_iload (pc := 87) dX12_findSoonest_87 rfl ?_
        refine Ru_iald (pc := 89) dX12_findSoonest_89 rfl (by omega) ?_
        refine Ru_top (hs (d (29 + m)) (by omega)) ?_
        refine Ru_if_ltT (pc := 90) 108 dX12_findSoonest_90 (by decide) (fun h3 => ?_) (fun h3 => ?_)
        · refine Ru_aload_n (pc := 108) dX12_findSoonest_108 rfl rfl ?_
          refine Ru_getR (pc := 109) 14 dX12_findSoonest_109 fl_X12_63 rfl rfl rfl ?_
          refine Ru_iload (pc := 112) dX12_findSoonest_112 rfl ?_
          refine Ru_iload (pc := 114) dX12_findSoonest_114 rfl ?_
          refine Ru_iast (pc := 116) rfl dX12_findSoonest_116 rfl (by omega) ?_
          refine Ru_iconst (pc := 117) (nI 1) dX12_findSoonest_117 rfl ?_
          refine Ru_istore_n (pc := 118) dX12_findSoonest_118 rfl rfl (by decide) ?_
          refine Ru_iincN (pc := 119) 1 dX12_findSoonest_119 rfl rfl rfl (by decide) ?_
          refine Ru_goto (pc := 122) 50 dX12_findSoonest_122 (by decide) ?_
          have t1 := sE_t (sBy d (sRow d m x) m)
          have t2 := sE_t (sRow d m x (d (29 + m)))
          have l1 := hl2 (d (29 + m))
          have l2 : sBy d (sRow d m x) m ≤ 1000000 := Nat.min_le_left _ _
          have lt : sBy d (sRow d m x) m < sRow d m x (d (29 + m)) := by omega
          exact Ru_weak (ih (d 1 - (m + 1)) (by omega) (m + 1) true _ rfl (by omega) (r_upd hs (fun _ => by rw [sRow_new (by omega)]) (fun k _ hk => by show sE (sUp d m (sRow d m x) k) = _; rw [sUp_out hk])) (fun _ => sRow_nw lt) (fun z => by cases z) (r_oth (by decide) h15) (r_fx.sI rfl fx)) rfl
        · refine Ru_iload (pc := 93) dX12_findSoonest_93 rfl ?_
          refine Ru_aload_n (pc := 95) dX12_findSoonest_95 rfl rfl ?_
          refine Ru_getR (pc := 96) 14 dX12_findSoonest_96 fl_X12_63 rfl rfl rfl ?_
          refine Ru_iload (pc := 99) dX12_findSoonest_99 rfl ?_
          refine Ru_iald (pc := 101) dX12_findSoonest_101 rfl (by omega) ?_
          refine Ru_top (hs (d (29 + m)) (by omega)) ?_
          refine Ru_icmp_ltT (pc := 102) 108 dX12_findSoonest_102 (by decide) (fun h4 => ?_) (fun h4 => ?_)
          · refine Ru_aload_n (pc := 108) dX12_findSoonest_108 rfl rfl ?_
            refine Ru_getR (pc := 109) 14 dX12_findSoonest_109 fl_X12_63 rfl rfl rfl ?_
            refine Ru_iload (pc := 112) dX12_findSoonest_112 rfl ?_
            refine Ru_iload (pc := 114) dX12_findSoonest_114 rfl ?_
            refine Ru_iast (pc := 116) rfl dX12_findSoonest_116 rfl (by omega) ?_
            refine Ru_iconst (pc := 117) (nI 1) dX12_findSoonest_117 rfl ?_
            refine Ru_istore_n (pc := 118) dX12_findSoonest_118 rfl rfl (by decide) ?_
            refine Ru_iincN (pc := 119) 1 dX12_findSoonest_119 rfl rfl rfl (by decide) ?_
            refine Ru_goto (pc := 122) 50 dX12_findSoonest_122 (by decide) ?_
            have t1 := sE_t (sBy d (sRow d m x) m)
            have t2 := sE_t (sRow d m x (d (29 + m)))
            have l1 := hl2 (d (29 + m))
            have l2 : sBy d (sRow d m x) m ≤ 1000000 := Nat.min_le_left _ _
            have lt : sBy d (sRow d m x) m < sRow d m x (d (29 + m)) := by omega
            exact Ru_weak (ih (d 1 - (m + 1)) (by omega) (m + 1) true _ rfl (by omega) (r_upd hs (fun _ => by rw [sRow_new (by omega)]) (fun k _ hk => by show sE (sUp d m (sRow d m x) k) = _; rw [sUp_out hk])) (fun _ => sRow_nw lt) (fun z => by cases z) (r_oth (by decide) h15) (r_fx.sI rfl fx)) rfl
          · refine Ru_goto (pc := 105) 119 dX12_findSoonest_105 (by decide) ?_
            refine Ru_iincN (pc := 119) 1 dX12_findSoonest_119 rfl rfl rfl (by decide) ?_
            refine Ru_goto (pc := 122) 50 dX12_findSoonest_122 (by decide) ?_
            have t1 := sE_t (sBy d (sRow d m x) m)
            have t2 := sE_t (sRow d m x (d (29 + m)))
            have l1 := hl2 (d (29 + m))
            have l2 : sBy d (sRow d m x) m ≤ 1000000 := Nat.min_le_left _ _
            have e : sRow d (m + 1) x = sRow d m x := sRow_same (by omega)
            exact Ru_weak (ih (d 1 - (m + 1)) (by omega) (m + 1) c _ rfl (by omega) (by rw [e]; exact hs) (by rw [e]; exact hT) (by rw [e]; exact hF) h15 fx) rfl

theorem l_X12_findSoonest2 {Q : Rq} {M0 : Mem} {d : Td} {s : Nat} (hc0 : ∀ k, k < 521 → M0.1 5 k = nI (d k)) (wf : Wf d) (k : ∀ M, (∀ k, k < 8 → M.1 14 k = sE (sT d s k)) → (∀ k, k < 8 → M.1 15 k = -1) → r_fx [] [14, 15] M0 M → Ru 2 mt_X12_findSoonest r_z 128 [(0, some (.ref 0)), (1, some (.int (nI s)))] [] GY M Q) : ∀ (w : Nat) (r : Nat) (c : Bool) (M : Mem), d 0 + 1 - r = w → (r ≤ d 0 + 1) → (∀ k, k < 8 → M.1 14 k = sE (sRnd d r (sZ s) k)) → (c = true → r ≤ d 0) → (c = false → sRnd d r (sZ s) = sT d s) → (∀ k, k < 8 → M.1 15 k = -1) → (r_fx [] [14, 15] M0 M) → Ru 2 mt_X12_findSoonest r_z 42 [(2, some (.int (r_b c))), (0, some (.ref 0)), (1, some (.int (nI s)))] [] GY M Q := by
  intro w
  induction w using Nat.strongRecOn with
  | ind w ih =>
    intro r c M hw hr h14 hT hF h15 fx
    subst hw
    have hb := wf.1
    refine Ru_iload_n (pc := 42) dX12_findSoonest_42 rfl rfl ?_
    refine Ru_if_eqB (pc := 43) 128 dX12_findSoonest_43 (by decide) (fun h1 => ?_) (fun h1 => ?_)
    · have e := hF (by assumption)
      rw [e] at h14
      exact Ru_weak (k _ h14 h15 fx) rfl
    · refine Ru_iconst (pc := 46) (nI 0) dX12_findSoonest_46 rfl ?_
      refine Ru_istore_n (pc := 47) dX12_findSoonest_47 rfl rfl (by decide) ?_
      refine Ru_iconst (pc := 48) (nI 0) dX12_findSoonest_48 rfl ?_
      refine Ru_istore_n (pc := 49) dX12_findSoonest_49 rfl rfl (by decide) ?_
      have hr8 : r ≤ d 0 := hT (by assumption)
      refine Ru_weak (l_X12_findSoonest3 (M0 := M0) (x := sRnd d r (sZ s)) (B := 288 * r) hc0 wf (by omega) (fun k => sRnd_b wf r k) (fun k => Nat.le_trans (sRnd_le d _ k r) (sZ_le s k)) (fun c' M' g14 gT gF g15 gx => ?_) (d 1) 0 false _ rfl (Nat.zero_le _) h14 (fun z => by cases z) (fun _ => rfl) h15 fx) rfl
      refine Ru_weak (ih (d 0 + 1 - (r + 1)) (by omega) (r + 1) c' M' rfl (by omega) g14 (fun z => ?_) (fun z => ?_) g15 gx) rfl
      · by_cases e : r < d 0
        · omega
        · have er : r = d 0 := by omega
          subst er
          exact absurd (s_fix wf (sZ_le s)) (gT z)
      · have q : sRnd d (r + 1) (sZ s) = sRnd d r (sZ s) := gF z
        rw [q]
        exact s_found wf q hr8

theorem l_X12_findSoonest4 {Q : Rq} {M0 : Mem} {d : Td} {s : Nat} (hc0 : ∀ k, k < 521 → M0.1 5 k = nI (d k)) (wf : Wf d) (hs8 : s < 2 ^ d 0) (k : ∀ M, (∀ k, k < 8 → M.1 14 k = sE (sT d s k)) → (∀ k, k < 8 → M.1 15 k = nM (sFirst d (sT d s) k)) → r_fx [] [14, 15] M0 M → Q none GY M) : ∀ (w : Nat) (n : Nat) (M : Mem), n = w → (n ≤ d 1) → (∀ k, k < 8 → M.1 14 k = sE (sT d s k)) → (∀ k, k < 8 → M.1 15 k = nM (sFm d (sT d s) k (d 1 - n) n)) → (r_fx [] [14, 15] M0 M) → Ru 2 mt_X12_findSoonest r_z 137 [(3, some (.int (nM n))), (0, some (.ref 0)), (1, some (.int (nI s)))] [] GY M Q := by
  intro w
  induction w using Nat.strongRecOn with
  | ind w ih =>
    intro n M hw hn hs h15 fx
    subst hw
    have hb := wf.1
    have hp := pw_le hb.1
    have hz : (nM n).toInt = (n : Int) - 1 := nM_t (by omega)
    have hc : ∀ k, k < 521 → M.1 5 k = nI (d k) := fun k hk => (fx 5 k rfl).1.trans (hc0 k hk)
    refine Ru_iload_n (pc := 137) dX12_findSoonest_137 rfl rfl ?_
    refine Ru_if_ltT (pc := 138) 217 dX12_findSoonest_138 (by decide) (fun h1 => ?_) (fun h1 => ?_)
    · refine Ru_vret (pc := 217) dX12_findSoonest_217 rfl ⟨Nat.le_refl _, Nat.le_refl _⟩ ?_
      have en : n = 0 := by omega
      subst en
      exact k _ hs h15 fx
    · obtain ⟨m, em⟩ : ∃ m, n = m + 1 := ⟨n - 1, by omega⟩
      subst em
      refine Ru_weak (L' := [(3, some (.int (nI m))), (0, some (.ref 0)), (1, some (.int (nI s)))]) ?_ rfl
      have hm5 := wf.2.2.2.2.1 m (by omega)
      have t1 := sE_t (sBy d (sT d s) m)
      have t2 := sE_t (sT d s (d (29 + m)))
      have l2 : sBy d (sT d s) m ≤ 1000000 := Nat.min_le_left _ _
      have l1 := sT_le d s (d (29 + m))
      refine Ru_iload_n (pc := 141) dX12_findSoonest_141 rfl rfl ?_
      refine Ru_aload_n (pc := 142) dX12_findSoonest_142 rfl rfl ?_
      refine Ru_getR (pc := 143) 5 dX12_findSoonest_143 fl_X12_35 rfl rfl rfl ?_
      refine Ru_bipush (pc := 146) (nI 29) dX12_findSoonest_146 rfl ?_
      refine Ru_iload_n (pc := 148) dX12_findSoonest_148 rfl rfl ?_
      refine Ru_iaddN (pc := 149) dX12_findSoonest_149 ?_
      refine Ru_iald (pc := 150) dX12_findSoonest_150 rfl (by omega) ?_
      refine Ru_top (hc (29 + m) (by omega)) ?_
      refine Ru_cs2 (pc := 151) dX12_findSoonest_151 ms_X12_372 (by decide) (Nat.le_of_ble_eq_true rfl) (c_X12_has (by omega) (by omega) ?_) 
      refine Ru_if_neB (pc := 154) 211 dX12_findSoonest_154 (by decide) (fun h2 => ?_) (fun h2 => ?_)
      · refine Ru_iinc (pc := 211) _ dX12_findSoonest_211 rfl rfl rfl (by decide) ?_
        refine Ru_goto (pc := 214) 137 dX12_findSoonest_214 (by decide) ?_
        rw [nM_dec (by omega)]
        have e : ∀ k, sFm d (sT d s) k (d 1 - (m + 1)) (m + 1) = sFm d (sT d s) k (d 1 - m) m := sFm_no (by omega) (fun k q => by obtain ⟨h1, h2, h3⟩ := of_decide_eq_true q; subst h1; rw [sOk_set wf (by assumption) (by omega)] at q; cases q)
        exact Ru_weak (ih m (by omega) m _ rfl (by omega) hs (fun k hk => by rw [h15 k hk, e]) fx) rfl
      · refine Ru_aload_n (pc := 157) dX12_findSoonest_157 rfl rfl ?_
        refine Ru_iload_n (pc := 158) dX12_findSoonest_158 rfl rfl ?_
        refine Ru_cv1 (pc := 159) dX12_findSoonest_159 mv_X12_413 rfl (by decide) (Nat.le_of_ble_eq_true rfl) (c_X12_endsSoonest (x := sT d s) hc wf (by omega) hs (fun k hk => by have := sT_b wf hk; omega) (sT_le d s) ?_) 
        refine Ru_aload_n (pc := 162) dX12_findSoonest_162 rfl rfl ?_
        refine Ru_getR (pc := 163) 14 dX12_findSoonest_163 fl_X12_63 rfl rfl rfl ?_
        refine Ru_aload_n (pc := 166) dX12_findSoonest_166 rfl rfl ?_
        refine Ru_getR (pc := 167) 5 dX12_findSoonest_167 fl_X12_35 rfl rfl rfl ?_
        refine Ru_bipush (pc := 170) (nI 29) dX12_findSoonest_170 rfl ?_
        refine Ru_iload_n (pc := 172) dX12_findSoonest_172 rfl rfl ?_
        refine Ru_iaddN (pc := 173) dX12_findSoonest_173 ?_
        refine Ru_iald (pc := 174) dX12_findSoonest_174 rfl (by omega) ?_
        refine Ru_top (hc (29 + m) (by omega)) ?_
        refine Ru_iald (pc := 175) dX12_findSoonest_175 rfl (by omega) ?_
        refine Ru_top (hs (d (29 + m)) (by omega)) ?_
        refine Ru_icmp_neT (pc := 176) 211 dX12_findSoonest_176 (by decide) (fun h3 => ?_) (fun h3 => ?_)
        · refine Ru_iinc (pc := 211) _ dX12_findSoonest_211 rfl rfl rfl (by decide) ?_
          refine Ru_goto (pc := 214) 137 dX12_findSoonest_214 (by decide) ?_
          rw [nM_dec (by omega)]
          have e : ∀ k, sFm d (sT d s) k (d 1 - (m + 1)) (m + 1) = sFm d (sT d s) k (d 1 - m) m := sFm_no (by omega) (sOk_no (by omega))
          exact Ru_weak (ih m (by omega) m _ rfl (by omega) hs (fun k hk => by rw [h15 k hk, e]) fx) rfl
        · refine Ru_aload_n (pc := 179) dX12_findSoonest_179 rfl rfl ?_
          refine Ru_getR (pc := 180) 14 dX12_findSoonest_180 fl_X12_63 rfl rfl rfl ?_
          refine Ru_aload_n (pc := 183) dX12_findSoonest_183 rfl rfl ?_
          refine Ru_getR (pc := 184) 5 dX12_findSoonest_184 fl_X12_35 rfl rfl rfl ?_
          refine Ru_bipush (pc := 187) (nI 29) dX12_findSoonest_187 rfl ?_
          refine Ru_iload_n (pc := 189) dX12_findSoonest_189 rfl rfl ?_
          refine Ru_iaddN (pc := 190) dX12_findSoonest_190 ?_
          refine Ru_iald (pc := 191) dX12_findSoonest_191 rfl (by omega) ?_
          refine Ru_top (hc (29 + m) (by omega)) ?_
          refine Ru_iald (pc := 192) dX12_findSoonest_192 rfl (by omega) ?_
          refine Ru_top (hs (d (29 + m)) (by omega)) ?_
          refine Ru_if_ltT (pc := 193) 211 dX12_findSoonest_193 (by decide) (fun h4 => ?_) (fun h4 => ?_)
          · refine Ru_iinc (pc := 211) _ dX12_findSoonest_211 rfl rfl rfl (by decide) ?_
            refine Ru_goto (pc := 214) 137 dX12_findSoonest_214 (by decide) ?_
            rw [nM_dec (by omega)]
            have e : ∀ k, sFm d (sT d s) k (d 1 - (m + 1)) (m + 1) = sFm d (sT d s) k (d 1 - m) m := sFm_no (by omega) (sOk_no (by omega))
            exact Ru_weak (ih m (by omega) m _ rfl (by omega) hs (fun k hk => by rw [h15 k hk, e]) fx) rfl
          · refine Ru_aload_n (pc := 196) dX12_findSoonest_196 rfl rfl ?_
            refine Ru_getR (pc := 197) 15 dX12_findSoonest_197 fl_X12_66 rfl rfl rfl ?_
            refine Ru_aload_n (pc := 200) dX12_findSoonest_200 rfl rfl ?_
            refine Ru_getR (pc := 201) 5 dX12_findSoonest_201 fl_X12_35 rfl rfl rfl ?_
            refine Ru_bipush (pc := 204) (nI 29) dX12_findSoonest_204 rfl ?_
            refine Ru_iload_n (pc := 206) dX12_findSoonest_206 rfl rfl ?_
            refine Ru_iaddN (pc := 207) dX12_findSoonest_207 ?_
            refine Ru_iald (pc := 208) dX12_findSoonest_208 rfl (by omega) ?_
            refine Ru_top (hc (29 + m) (by omega)) ?_
            refine Ru_iload_n (pc := 209) dX12_findSoonest_209 rfl rfl ?_
            refine Ru_iast (pc := 210) rfl dX12_findSoonest_210 rfl (by omega) ?_
            refine Ru_iinc (pc := 211) _ dX12_findSoonest_211 rfl rfl rfl (by decide) ?_
            refine Ru_goto (pc := 214) 137 dX12_findSoonest_214 (by decide) ?_
            rw [nM_dec (by omega)]
            have ok : sOk d (sT d s) (d (29 + m)) m = true := decide_eq_true ⟨rfl, by omega, by omega⟩
            have e1 : ∀ k, k < 8 → k ≠ d (29 + m) → nM (sFm d (sT d s) k (d 1 - m) m) = nM (sFm d (sT d s) k (d 1 - (m + 1)) (m + 1)) := fun k _ hk => by
              rw [show d 1 - m = (d 1 - (m + 1)) + 1 by omega, sFm, if_neg (fun q => hk (of_decide_eq_true q).1.symm)]
            have e2 : d (29 + m) < 8 → nI m = nM (sFm d (sT d s) (d (29 + m)) (d 1 - m) m) := fun _ => by
              rw [show d 1 - m = (d 1 - (m + 1)) + 1 by omega, sFm, if_pos ok]
              rfl
            exact Ru_weak (ih m (by omega) m _ rfl (by omega) (r_oth (by decide) hs) (r_upd h15 e2 e1) (r_fx.sI rfl fx)) rfl

theorem c_X12_findSoonest {Q : Rq} {M : Mem} {d : Td} {s : Nat} (hc : ∀ k, k < 521 → M.1 5 k = nI (d k)) (wf : Wf d) (hs8 : s < 2 ^ d 0) (k : ∀ M', (∀ k, k < 8 → M'.1 14 k = sE (sT d s k)) → (∀ k, k < 8 → M'.1 15 k = nM (sFirst d (sT d s) k)) → r_fx [] [14, 15] M M' → Q none GY M') : Ca 2 mt_X12_findSoonest 0 0 [.ref 0, .int (nI s)] GY M Q := by
  refine Ca_of rfl (Nat.le_of_ble_eq_true rfl) ?_
  refine Ru_iconst (pc := 0) (nI 0) dX12_findSoonest_0 rfl ?_
  refine Ru_istore_n (pc := 1) dX12_findSoonest_1 rfl rfl (by decide) ?_
  refine Ru_weak (l_X12_findSoonest1 (M0 := M) (by have := pw_le wf.1.1; omega) (fun M1 g14 g15 gx => ?_) 8 0 M rfl (by omega) (fun k hk => by omega) (fun k hk => by omega) r_fx.rf) rfl
  refine Ru_iconst (pc := 40) (nI 1) dX12_findSoonest_40 rfl ?_
  refine Ru_istore_n (pc := 41) dX12_findSoonest_41 rfl rfl (by decide) ?_
  refine Ru_weak (l_X12_findSoonest2 (M0 := M) hc wf (fun M2 f14 f15 fx2 => ?_) (d 0 + 1) 0 true M1 rfl (Nat.zero_le _) g14 (fun _ => Nat.zero_le _) (fun z => by cases z) g15 gx) rfl
  have hc2 : ∀ k, k < 521 → M2.1 5 k = nI (d k) := fun k hk => (fx2 5 k rfl).1.trans (hc k hk)
  refine Ru_aload_n (pc := 128) dX12_findSoonest_128 rfl rfl ?_
  refine Ru_getR (pc := 129) 5 dX12_findSoonest_129 fl_X12_35 rfl rfl rfl ?_
  refine Ru_iconst (pc := 132) (nI 1) dX12_findSoonest_132 rfl ?_
  refine Ru_iald (pc := 133) dX12_findSoonest_133 rfl (by omega) ?_
  refine Ru_top (hc2 1 (by omega)) ?_
  refine Ru_iconst (pc := 134) (nI 1) dX12_findSoonest_134 rfl ?_
  refine Ru_isub (pc := 135) dX12_findSoonest_135 ?_
  rw [nM_sub (by have := wf.1; omega)]
  refine Ru_istore_n (pc := 136) dX12_findSoonest_136 rfl rfl (by decide) ?_
  refine Ru_weak (l_X12_findSoonest4 (M0 := M) hc wf hs8 k (d 1) (d 1) M2 rfl (Nat.le_refl _) f14 (fun k hk => ?_) fx2) rfl
  rw [Nat.sub_self, f15 k hk]
  rfl
