-- SOONEST: the reference
def sE (v : Nat) : Int32 := if v < 1000000 then nI v else -1
theorem sE_f {v : Nat} (h : v < 1000000) : sE v = nI v := if_pos h
theorem sE_n {v : Nat} (h : ¬ v < 1000000) : sE v = -1 := if_neg h
theorem sE_t (v : Nat) : (v < 1000000 ∧ (sE v).toInt = (v : Int)) ∨ (¬ v < 1000000 ∧ (sE v).toInt = -1) := by
  by_cases h : v < 1000000
  · exact Or.inl ⟨h, by rw [sE_f h, r_tn (by omega)]⟩
  · exact Or.inr ⟨h, by rw [sE_n h]; rfl⟩
theorem sE_max {v l : Nat} (h : v < 1000000) (hl : l < 2147483648) : (if (sE v).toInt ≤ (nI l).toInt then nI l else sE v) = nI (max l v) := by
  rw [sE_f h, r_tn (by omega), r_tn hl]
  split
  · congr 1
    omega
  · congr 1
    omega
theorem r_ext {f : Nat → Int32} {M : Mem} {o n : Nat} {v : Int32} (h : ∀ k, k < n → M.1 o k = f k) (hv : v = f n) : ∀ k, k < n + 1 → (r_sI M o n v).1 o k = f k := fun k hk => by
  rw [r_sI_g]
  by_cases e : k = n
  · subst e
    simp [hv]
  · simp [e]
    exact h k (by omega)
theorem r_upd {f g : Nat → Int32} {M : Mem} {o n N : Nat} {v : Int32} (h : ∀ k, k < N → M.1 o k = f k) (hv : n < N → v = g n) (hg : ∀ k, k < N → k ≠ n → g k = f k) : ∀ k, k < N → (r_sI M o n v).1 o k = g k := fun k hk => by
  rw [r_sI_g]
  by_cases e : k = n
  · subst e
    simp [hv hk]
  · simp [e]
    rw [hg k hk e]
    exact h k hk
theorem r_oth {f : Nat → Int32} {M : Mem} {o o' n N : Nat} {v : Int32} (ho : o' ≠ o) (h : ∀ k, k < N → M.1 o' k = f k) : ∀ k, k < N → (r_sI M o n v).1 o' k = f k := fun k hk => (r_sI_n (fun z => ho z.1)).trans (h k hk)
theorem nM_sub {n : Nat} (h : n < 2147483648) : nI n - nI 1 = nM n := by
  apply Int32.toInt_inj.mp
  rw [nM_t h, r_si (by rw [r_tn h, r_tn (by omega)]; omega), r_tn h, r_tn (by omega)]
  omega
theorem nM_dec {n : Nat} (h : n < 2147483647) : nI n + Int32.ofInt (-1) = nM n := by
  rw [← nM_sub (by omega)]
  rw [Int32.sub_eq_add_neg]
  rfl
theorem c_X12_needsS {Q : Rq} {M : Mem} {d : Td} {m : Nat} (h5 : ∀ k, k < 521 → M.1 5 k = nI (d k)) (wf : Wf d) (hm : m < d 1) (k : Q (some (.int (nI (sNd d m)))) GY M) : Ca 0 mt_X12_needsOf 0 0 [.ref 0, .int (nI m)] GY M Q := c_X12_needsOf h5 wf hm k
theorem c_X9_needsS {Q : Rq} {M : Mem} {t m : Nat} {d : Td} (ht : isTown t) (hx : X_tm t d M) (wf : Wf d) (hm : m < d 1) (k : Q (some (.int (nI (sNd d m)))) GX M) : Ca 0 mt_X9_needs 0 0 [.ref t, .int (nI m)] GX M Q := c_X9_needs ht hx wf hm k

theorem l_X12_endsSoonest {Q : Rq} {M : Mem} {d : Td} {m : Nat} {x : Nat → Nat} (hc : ∀ k, k < 521 → M.1 5 k = nI (d k)) (wf : Wf d) (hm : m < d 1) (hs : ∀ k, k < 8 → M.1 14 k = sE (x k)) (hB : ∀ k, x k < 1000000 → x k ≤ 990000) (hle : ∀ k, x k ≤ 1000000) (k : Q (some (.int (sE (sBy d x m)))) GY M) : ∀ (w : Nat) (p : Nat), d 0 - p = w → (p ≤ d 0) → (∀ k, k < p → (sNd d m).testBit k = true → x k < 1000000) → Ru 1 mt_X12_endsSoonest r_z 4 [(2, some (.int (nI (sLast (sNd d m) x p)))), (3, some (.int (nI p))), (0, some (.ref 0)), (1, some (.int (nI m)))] [] GY M Q := by
  intro w
  induction w using Nat.strongRecOn with
  | ind w ih =>
    intro p hw hn hf
    subst hw
    have hb := wf.1
    have hm5 := wf.2.2.2.2.1 m hm
    have hp := pw_le hb.1
    have hnd : sNd d m < 2 ^ d 0 := r_or_lt hm5.2.2.2.1 hm5.2.2.2.2.1
    have hl : sLast (sNd d m) x p ≤ 990000 := sLast_b p (fun k hk hbk => hB k (hf k hk hbk))
    refine Ru_iload_n (pc := 4) dX12_endsSoonest_4 rfl rfl ?_
    refine Ru_aload_n (pc := 5) dX12_endsSoonest_5 rfl rfl ?_
    refine Ru_getR (pc := 6) 5 dX12_endsSoonest_6 fl_X12_35 rfl rfl rfl ?_
    refine Ru_iconst (pc := 9) (nI 0) dX12_endsSoonest_9 rfl ?_
    refine Ru_iald (pc := 10) dX12_endsSoonest_10 rfl (by omega) ?_
    refine Ru_top (hc 0 (by omega)) ?_
    refine Ru_icmp_geN (pc := 11) 57 dX12_endsSoonest_11 (by decide) (by omega) (fun h1 => ?_) (fun h1 => ?_)
    · have ep2 : p = d 0 := by omega
      refine Ru_iload_n (pc := 57) dX12_endsSoonest_57 rfl rfl ?_
      refine Ru_aload_n (pc := 58) dX12_endsSoonest_58 rfl rfl ?_
      refine Ru_getR (pc := 59) 5 dX12_endsSoonest_59 fl_X12_35 rfl rfl rfl ?_
      refine Ru_bipush (pc := 62) (nI 41) dX12_endsSoonest_62 rfl ?_
      refine Ru_iload_n (pc := 64) dX12_endsSoonest_64 rfl rfl ?_
      refine Ru_iaddN (pc := 65) dX12_endsSoonest_65 ?_
      refine Ru_iald (pc := 66) dX12_endsSoonest_66 rfl (by omega) ?_
      refine Ru_top (hc (41 + m) (by omega)) ?_
      refine Ru_iaddN (pc := 67) dX12_endsSoonest_67 ?_
      refine Ru_iret (pc := 68) dX12_endsSoonest_68 rfl ⟨Nat.le_refl _, Nat.le_refl _⟩ ?_
      refine r_qe ?_ k
      have ep : p = d 0 := by omega
      subst ep
      have e : sBy d x m = min 1000000 (sLast (sNd d m) x (d 0) + d (41 + m)) := rfl
      rw [sE_f (by omega)]
      congr 1
      omega
    · refine Ru_aload_n (pc := 14) dX12_endsSoonest_14 rfl rfl ?_
      refine Ru_iload_n (pc := 15) dX12_endsSoonest_15 rfl rfl ?_
      refine Ru_cv1 (pc := 16) dX12_endsSoonest_16 mv_X12_407 rfl (by decide) (Nat.le_of_ble_eq_true rfl) (c_X12_needsS hc wf (by omega) ?_) 
      refine Ru_iload_n (pc := 19) dX12_endsSoonest_19 rfl rfl ?_
      refine Ru_cs2 (pc := 20) dX12_endsSoonest_20 ms_X12_372 (by decide) (Nat.le_of_ble_eq_true rfl) (c_X12_has (by omega) (by omega) ?_) 
      refine Ru_if_neB (pc := 23) 29 dX12_endsSoonest_23 (by decide) (fun h2 => ?_) (fun h2 => ?_)
      · refine Ru_aload_n (pc := 29) dX12_endsSoonest_29 rfl rfl ?_
        refine Ru_getR (pc := 30) 14 dX12_endsSoonest_30 fl_X12_63 rfl rfl rfl ?_
        refine Ru_iload_n (pc := 33) dX12_endsSoonest_33 rfl rfl ?_
        refine Ru_iald (pc := 34) dX12_endsSoonest_34 rfl (by omega) ?_
        refine Ru_top (hs p (by omega)) ?_
        refine Ru_if_geT (pc := 35) 40 dX12_endsSoonest_35 (by decide) (fun h3 => ?_) (fun h3 => ?_)
        · have ht := sE_t (x p)
          refine Ru_iload_n (pc := 40) dX12_endsSoonest_40 rfl rfl ?_
          refine Ru_aload_n (pc := 41) dX12_endsSoonest_41 rfl rfl ?_
          refine Ru_getR (pc := 42) 14 dX12_endsSoonest_42 fl_X12_63 rfl rfl rfl ?_
          refine Ru_iload_n (pc := 45) dX12_endsSoonest_45 rfl rfl ?_
          refine Ru_iald (pc := 46) dX12_endsSoonest_46 rfl (by omega) ?_
          refine Ru_top (hs p (by omega)) ?_
          refine Ru_cs2 (pc := 47) dX12_endsSoonest_47 ms_X12_410 (by decide) (Nat.le_of_ble_eq_true rfl) (c_Y_max _ (sE_max (v := x p) (l := sLast (sNd d m) x p) (by omega) (by omega)) ?_) 
          refine Ru_istore_n (pc := 50) dX12_endsSoonest_50 rfl rfl (by decide) ?_
          refine Ru_iincN (pc := 51) 1 dX12_endsSoonest_51 rfl rfl rfl (by decide) ?_
          refine Ru_goto (pc := 54) 4 dX12_endsSoonest_54 (by decide) ?_
          have e : sLast (sNd d m) x (p + 1) = (max (sLast (sNd d m) x p) (x p)) := by
            rw [sLast]
            simp_all
          have hr := ih (d 0 - (p + 1)) (by omega) (p + 1) rfl (by omega) (fun k hk hbk => by
            by_cases e2 : k = p
            · subst e2
              omega
            · exact hf k (by omega) hbk)
          rw [e] at hr
          exact Ru_weak hr rfl
        · refine Ru_iconst (pc := 38) (-1) dX12_endsSoonest_38 rfl ?_
          refine Ru_iret (pc := 39) dX12_endsSoonest_39 rfl ⟨Nat.le_refl _, Nat.le_refl _⟩ ?_
          refine r_qe ?_ k
          have h9 := sLast_le (x := x) (nd := sNd d m) (k := p) (by assumption) (d 0) (by omega)
          have hx := hle p
          have ht := sE_t (x p)
          have e : sBy d x m = min 1000000 (sLast (sNd d m) x (d 0) + d (41 + m)) := rfl
          exact (sE_n (by omega)).symm
      · refine Ru_goto (pc := 26) 51 dX12_endsSoonest_26 (by decide) ?_
        refine Ru_iincN (pc := 51) 1 dX12_endsSoonest_51 rfl rfl rfl (by decide) ?_
        refine Ru_goto (pc := 54) 4 dX12_endsSoonest_54 (by decide) ?_
        have e : sLast (sNd d m) x (p + 1) = (sLast (sNd d m) x p) := by
          rw [sLast]
          simp_all
        have hr := ih (d 0 - (p + 1)) (by omega) (p + 1) rfl (by omega) (fun k hk hbk => by
          by_cases e2 : k = p
          · subst e2
            simp_all
          · exact hf k (by omega) hbk)
        rw [e] at hr
        exact Ru_weak hr rfl

theorem c_X12_endsSoonest {Q : Rq} {M : Mem} {d : Td} {m : Nat} {x : Nat → Nat} (hc : ∀ k, k < 521 → M.1 5 k = nI (d k)) (wf : Wf d) (hm : m < d 1) (hs : ∀ k, k < 8 → M.1 14 k = sE (x k)) (hB : ∀ k, x k < 1000000 → x k ≤ 990000) (hle : ∀ k, x k ≤ 1000000) (k : Q (some (.int (sE (sBy d x m)))) GY M) : Ca 1 mt_X12_endsSoonest 0 0 [.ref 0, .int (nI m)] GY M Q := by
  refine Ca_of rfl (Nat.le_of_ble_eq_true rfl) ?_
  refine Ru_iconst (pc := 0) (nI 0) dX12_endsSoonest_0 rfl ?_
  refine Ru_istore_n (pc := 1) dX12_endsSoonest_1 rfl rfl (by decide) ?_
  refine Ru_iconst (pc := 2) (nI 0) dX12_endsSoonest_2 rfl ?_
  refine Ru_istore_n (pc := 3) dX12_endsSoonest_3 rfl rfl (by decide) ?_
  exact Ru_weak (l_X12_endsSoonest hc wf hm hs hB hle k (d 0) 0 rfl (by omega) (fun k hk => by omega)) rfl
