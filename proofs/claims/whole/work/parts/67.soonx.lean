-- SOONEST: the developers' own
def twA : List Nat := [3, 4, 5, 6, 7, 8, 9, 10, 11, 12, 13, 14, 15, 16, 17, 18, 19, 20, 21, 83, 84, 85, 86, 87, 88, 89, 90, 91, 92, 93, 94, 95, 96, 97, 98, 99, 100, 101, 111, 112, 113, 114, 115, 116, 117, 118, 119, 120, 121, 122, 123, 124, 125, 126, 127, 128, 129, 139, 140, 141, 142, 143, 144, 145, 146, 147, 148, 149, 150, 151, 152, 153, 154, 155, 156, 157, 167, 168, 169, 170, 171, 172, 173, 174, 175, 176, 177, 178, 179, 180, 181, 182, 183, 184, 185]
theorem tw_c : ∀ j, j < 19 → twA.contains (3 + j) = true ∧ twA.contains (83 + j) = true ∧ twA.contains (111 + j) = true ∧ twA.contains (139 + j) = true ∧ twA.contains (167 + j) = true := by decide +kernel
theorem tw_in {F : List (Nat × Nat)} {t : Nat} (h : isTown t) (j : Nat) (hj : j < 19) (k : Nat) : r_in F twA (t + j) k = true := by
  have hc := tw_c j hj
  rcases h with rfl | rfl | rfl | rfl | rfl
  · exact r_in_A hc.1
  · exact r_in_A hc.2.1
  · exact r_in_A hc.2.2.1
  · exact r_in_A hc.2.2.2.1
  · exact r_in_A hc.2.2.2.2
theorem X_tm_dp {t : Nat} (ht : isTown t) (d : Td) : r_dp [] twA (X_tm t d) := by
  intro M M' h p
  have g : ∀ j, j < 19 → ∀ k, M'.1 (t + j) k = M.1 (t + j) k := fun j hj k => (h (t + j) k (tw_in ht j hj k)).1
  obtain ⟨⟨a1, a2, a3, a4⟩, ⟨b1, b2, b3⟩, c1, c2, c3, c4, c5⟩ := p
  refine ⟨⟨(g 1 (by decide) _).trans a1, (g 3 (by decide) _).trans a2, (g 10 (by decide) _).trans a3, (g 0 (by decide) _).trans a4⟩, ⟨(g 0 (by decide) _).trans b1, (g 0 (by decide) _).trans b2, (g 0 (by decide) _).trans b3⟩, fun m hm => ?_, fun m hm => ?_, fun m hm => ?_, fun m hm => ?_, fun m hm => ?_⟩
  · obtain ⟨q1, q2, q3, q4, q5⟩ := c1 m hm
    exact ⟨(g 5 (by decide) _).trans q1, (g 6 (by decide) _).trans q2, (g 7 (by decide) _).trans q3, (g 8 (by decide) _).trans q4, (g 9 (by decide) _).trans q5⟩
  · obtain ⟨q1, q2⟩ := c2 m hm
    exact ⟨(g 12 (by decide) _).trans q1, (g 13 (by decide) _).trans q2⟩
  · obtain ⟨q1, q2, q3⟩ := c3 m hm
    exact ⟨(g 14 (by decide) _).trans q1, (g 15 (by decide) _).trans q2, (g 16 (by decide) _).trans q3⟩
  · exact (g 17 (by decide) _).trans (c4 m hm)
  · exact (g 18 (by decide) _).trans (c5 m hm)
theorem nI_max {a b : Nat} (ha : a < 2147483648) (hb : b < 2147483648) : (if (nI b).toInt ≤ (nI a).toInt then nI a else nI b) = nI (max a b) := by
  rw [r_tn ha, r_tn hb]
  split
  · congr 1
    omega
  · congr 1
    omega
theorem c_X_maxN {Q : Rq} {M : Mem} {a b : Nat} (ha : a < 2147483648) (hb : b < 2147483648) (k : Q (some (.int (nI (max a b)))) GX M) : Ca 0 mt_J9_max_7cf53 0 0 [.int (nI a), .int (nI b)] GX M Q := c_X_max _ (nI_max ha hb) k
theorem c_Y_maxN {Q : Rq} {M : Mem} {a b : Nat} (ha : a < 2147483648) (hb : b < 2147483648) (k : Q (some (.int (nI (max a b)))) GY M) : Ca 0 mt_J9_max_7cf53 0 0 [.int (nI a), .int (nI b)] GY M Q := c_Y_max _ (nI_max ha hb) k

theorem c_Y_minN {Q : Rq} {M : Mem} {a b : Nat} (ha : a < 2147483648) (hb : b < 2147483648) (k : Q (some (.int (nI (min a b)))) GY M) : Ca 0 mt_J9_min_7cf53 0 0 [.int (nI a), .int (nI b)] GY M Q := by
  refine Ca_ofF (by decide +kernel) (Nat.le_of_ble_eq_true rfl) ?_
  refine Ru_iload_n (pc := 0) dJ9_min_7cf53_0 rfl rfl ?_
  refine Ru_iload_n (pc := 1) dJ9_min_7cf53_1 rfl rfl ?_
  refine Ru_icmp_gtN (pc := 2) 9 dJ9_min_7cf53_2 (by decide) (by omega) (fun h1 => ?_) (fun h1 => ?_)
  · refine Ru_iload_n (pc := 9) dJ9_min_7cf53_9 rfl rfl ?_
    refine Ru_iret (pc := 10) dJ9_min_7cf53_10 rfl ⟨Nat.le_refl _, Nat.le_refl _⟩ ?_
    refine r_qe ?_ k
    congr 1
    omega
  · refine Ru_iload_n (pc := 5) dJ9_min_7cf53_5 rfl rfl ?_
    refine Ru_goto (pc := 6) 10 dJ9_min_7cf53_6 (by decide) ?_
    refine Ru_iret (pc := 10) dJ9_min_7cf53_10 rfl ⟨Nat.le_refl _, Nat.le_refl _⟩ ?_
    refine r_qe ?_ k
    congr 1
    omega

theorem c_X_minN {Q : Rq} {M : Mem} {a b : Nat} (ha : a < 2147483648) (hb : b < 2147483648) (k : Q (some (.int (nI (min a b)))) GX M) : Ca 0 mt_J9_min_7cf53 0 0 [.int (nI a), .int (nI b)] GX M Q := by
  refine Ca_ofF (by decide +kernel) (Nat.le_of_ble_eq_true rfl) ?_
  refine Ru_iload_n (pc := 0) dJ9_min_7cf53_0 rfl rfl ?_
  refine Ru_iload_n (pc := 1) dJ9_min_7cf53_1 rfl rfl ?_
  refine Ru_icmp_gtN (pc := 2) 9 dJ9_min_7cf53_2 (by decide) (by omega) (fun h1 => ?_) (fun h1 => ?_)
  · refine Ru_iload_n (pc := 9) dJ9_min_7cf53_9 rfl rfl ?_
    refine Ru_iret (pc := 10) dJ9_min_7cf53_10 rfl ⟨Nat.le_refl _, Nat.le_refl _⟩ ?_
    refine r_qe ?_ k
    congr 1
    omega
  · refine Ru_iload_n (pc := 5) dJ9_min_7cf53_5 rfl rfl ?_
    refine Ru_goto (pc := 6) 10 dJ9_min_7cf53_6 (by decide) ?_
    refine Ru_iret (pc := 10) dJ9_min_7cf53_10 rfl ⟨Nat.le_refl _, Nat.le_refl _⟩ ?_
    refine r_qe ?_ k
    congr 1
    omega

theorem l_X7_timeBy {Q : Rq} {M : Mem} {t : Nat} {d : Td} {m : Nat} {x : Nat → Nat} (ht : isTown t) (hx : X_tm t d M) (wf : Wf d) (htw : M.2.2 53 1 = some t) (hm : m < d 1) (hs : ∀ k, k < 8 → M.1 54 k = nI (x k)) (hle : ∀ k, x k ≤ 1000000) (k : Q (some (.int (nI (sBy d x m)))) GX M) : ∀ (w : Nat) (p : Nat), d 0 - p = w → (p ≤ d 0) → Ru 1 mt_X7_timeBy r_z 4 [(2, some (.int (nI (sLast (sNd d m) x p)))), (3, some (.int (nI p))), (0, some (.ref 53)), (1, some (.int (nI m)))] [] GX M Q := by
  intro w
  induction w using Nat.strongRecOn with
  | ind w ih =>
    intro p hw hn
    subst hw
    have hb := wf.1
    have hm5 := wf.2.2.2.2.1 m hm
    have hp := pw_le hb.1
    have hnd : sNd d m < 2 ^ d 0 := r_or_lt hm5.2.2.2.1 hm5.2.2.2.2.1
    have hl : sLast (sNd d m) x p ≤ 1000000 := sLast_b p (fun k _ _ => hle k)
    refine Ru_iload_n (pc := 4) dX7_timeBy_4 rfl rfl ?_
    refine Ru_aload_n (pc := 5) dX7_timeBy_5 rfl rfl ?_
    refine Ru_getR (pc := 6) t dX7_timeBy_6 fl_X7_15 rfl rfl ((rfX_mut rfl rfl).trans htw) ?_
    refine Ru_getR (pc := 9) (t + 1) dX7_timeBy_9 fl_X7_20 (shTown_0 ht) rfl (rfX_of (o := t) (j := 1) (shTown_0 ht) rfl) ?_
    refine Ru_getI (pc := 12) dX7_timeBy_12 fl_X7_26 (shNames_0 (isNames_t ht).1) rfl ?_
    refine Ru_top hx.1.1 ?_
    refine Ru_icmp_geN (pc := 15) 50 dX7_timeBy_15 (by decide) (by omega) (fun h1 => ?_) (fun h1 => ?_)
    · refine Ru_ldc (pc := 50) dX7_timeBy_50 tw_1027 ?_
      refine Ru_top (show (1000000 : Int32) = nI 1000000 from rfl) ?_
      refine Ru_iload_n (pc := 52) dX7_timeBy_52 rfl rfl ?_
      refine Ru_aload_n (pc := 53) dX7_timeBy_53 rfl rfl ?_
      refine Ru_getR (pc := 54) t dX7_timeBy_54 fl_X7_15 rfl rfl ((rfX_mut rfl rfl).trans htw) ?_
      refine Ru_getR (pc := 57) (t + 6) dX7_timeBy_57 fl_X7_54 (shTown_0 ht) rfl (rfX_of (o := t) (j := 6) (shTown_0 ht) rfl) ?_
      refine Ru_iload_n (pc := 60) dX7_timeBy_60 rfl rfl ?_
      refine Ru_iald (pc := 61) dX7_timeBy_61 (shTown_6 ht) (by omega) ?_
      refine Ru_top (hx.2.2.1 m (by omega)).2.1 ?_
      refine Ru_iaddN (pc := 62) dX7_timeBy_62 ?_
      refine Ru_cs2 (pc := 63) dX7_timeBy_63 ms_X7_42 (by decide) (Nat.le_of_ble_eq_true rfl) (c_X_minN (by omega) (by omega) ?_) 
      refine Ru_iret (pc := 66) dX7_timeBy_66 rfl ⟨Nat.le_refl _, Nat.le_refl _⟩ ?_
      have ep : p = d 0 := by omega
      subst ep
      exact k
    · refine Ru_aload_n (pc := 18) dX7_timeBy_18 rfl rfl ?_
      refine Ru_getR (pc := 19) t dX7_timeBy_19 fl_X7_15 rfl rfl ((rfX_mut rfl rfl).trans htw) ?_
      refine Ru_iload_n (pc := 22) dX7_timeBy_22 rfl rfl ?_
      refine Ru_cv1 (pc := 23) dX7_timeBy_23 mv_X7_48 (shTown_0 ht) (by decide) (Nat.le_of_ble_eq_true rfl) (c_X9_needsS ht hx wf (by omega) ?_) 
      refine Ru_iload_n (pc := 26) dX7_timeBy_26 rfl rfl ?_
      refine Ru_ishrN (pc := 27) dX7_timeBy_27 (by omega) ?_
      refine Ru_iconst (pc := 28) (nI 1) dX7_timeBy_28 rfl ?_
      refine Ru_iandN (pc := 29) dX7_timeBy_29 ?_
      refine Ru_if_eqN (pc := 30) 44 dX7_timeBy_30 (by decide) (Nat.lt_of_le_of_lt Nat.and_le_right (by decide)) (fun h2 => ?_) (fun h2 => ?_)
      · have h2b := r_b1_f h2
        refine Ru_iincN (pc := 44) 1 dX7_timeBy_44 rfl rfl rfl (by decide) ?_
        refine Ru_goto (pc := 47) 4 dX7_timeBy_47 (by decide) ?_
        have e : sLast (sNd d m) x (p + 1) = (sLast (sNd d m) x p) := by
          rw [sLast, if_neg (by rw [h2b]; decide)]
        have hr := ih (d 0 - (p + 1)) (by omega) (p + 1) rfl (by omega)
        rw [e] at hr
        exact Ru_weak hr rfl
      · have h2b := r_b1_t h2
        have hlp := hle p
        refine Ru_iload_n (pc := 33) dX7_timeBy_33 rfl rfl ?_
        refine Ru_aload_n (pc := 34) dX7_timeBy_34 rfl rfl ?_
        refine Ru_getR (pc := 35) 54 dX7_timeBy_35 fl_X7_9 rfl rfl (rfX_of (o := 53) (j := 1) rfl rfl) ?_
        refine Ru_iload_n (pc := 38) dX7_timeBy_38 rfl rfl ?_
        refine Ru_iald (pc := 39) dX7_timeBy_39 rfl (by omega) ?_
        refine Ru_top (hs p (by omega)) ?_
        refine Ru_cs2 (pc := 40) dX7_timeBy_40 ms_X7_51 (by decide) (Nat.le_of_ble_eq_true rfl) (c_X_maxN (by omega) (by omega) ?_) 
        refine Ru_istore_n (pc := 43) dX7_timeBy_43 rfl rfl (by decide) ?_
        refine Ru_iincN (pc := 44) 1 dX7_timeBy_44 rfl rfl rfl (by decide) ?_
        refine Ru_goto (pc := 47) 4 dX7_timeBy_47 (by decide) ?_
        have e : sLast (sNd d m) x (p + 1) = (max (sLast (sNd d m) x p) (x p)) := by
          rw [sLast, if_pos h2b]
        have hr := ih (d 0 - (p + 1)) (by omega) (p + 1) rfl (by omega)
        rw [e] at hr
        exact Ru_weak hr rfl

theorem c_X7_timeBy {Q : Rq} {M : Mem} {t : Nat} {d : Td} {m : Nat} {x : Nat → Nat} (ht : isTown t) (hx : X_tm t d M) (wf : Wf d) (htw : M.2.2 53 1 = some t) (hm : m < d 1) (hs : ∀ k, k < 8 → M.1 54 k = nI (x k)) (hle : ∀ k, x k ≤ 1000000) (k : Q (some (.int (nI (sBy d x m)))) GX M) : Ca 1 mt_X7_timeBy 0 0 [.ref 53, .int (nI m)] GX M Q := by
  refine Ca_of rfl (Nat.le_of_ble_eq_true rfl) ?_
  refine Ru_iconst (pc := 0) (nI 0) dX7_timeBy_0 rfl ?_
  refine Ru_istore_n (pc := 1) dX7_timeBy_1 rfl rfl (by decide) ?_
  refine Ru_iconst (pc := 2) (nI 0) dX7_timeBy_2 rfl ?_
  refine Ru_istore_n (pc := 3) dX7_timeBy_3 rfl rfl (by decide) ?_
  exact Ru_weak (l_X7_timeBy ht hx wf htw hm hs hle k (d 0) 0 rfl (by omega)) rfl

theorem l_X7_firstMaking {Q : Rq} {M : Mem} {t : Nat} {d : Td} {q : Nat} {x : Nat → Nat} (ht : isTown t) (hx : X_tm t d M) (wf : Wf d) (htw : M.2.2 53 1 = some t) (hq : q < 8) (hs : ∀ k, k < 8 → M.1 54 k = nI (x k)) (hle : ∀ k, x k ≤ 1000000) (k : Q (some (.int (nM (sFirst d x q)))) GX M) : ∀ (w : Nat) (m : Nat), d 1 - m = w → (m ≤ d 1) → (sFm d x q (d 1 - m) m = sFirst d x q) → Ru 2 mt_X7_firstMaking r_z 2 [(2, some (.int (nI m))), (0, some (.ref 53)), (1, some (.int (nI q)))] [] GX M Q := by
  intro w
  induction w using Nat.strongRecOn with
  | ind w ih =>
    intro m hw hn e1
    subst hw
    have hb := wf.1
    refine Ru_iload_n (pc := 2) dX7_firstMaking_2 rfl rfl ?_
    refine Ru_aload_n (pc := 3) dX7_firstMaking_3 rfl rfl ?_
    refine Ru_getR (pc := 4) t dX7_firstMaking_4 fl_X7_15 rfl rfl ((rfX_mut rfl rfl).trans htw) ?_
    refine Ru_getR (pc := 7) (t + 3) dX7_firstMaking_7 fl_X7_32 (shTown_0 ht) rfl (rfX_of (o := t) (j := 3) (shTown_0 ht) rfl) ?_
    refine Ru_getI (pc := 10) dX7_firstMaking_10 fl_X7_26 (shNames_0 (isNames_t ht).2.1) rfl ?_
    refine Ru_top hx.1.2.1 ?_
    refine Ru_icmp_geN (pc := 13) 62 dX7_firstMaking_13 (by decide) (by omega) (fun h1 => ?_) (fun h1 => ?_)
    · refine Ru_iconst (pc := 62) (-1) dX7_firstMaking_62 rfl ?_
      refine Ru_iret (pc := 63) dX7_firstMaking_63 rfl ⟨Nat.le_refl _, Nat.le_refl _⟩ ?_
      refine r_qe ?_ k
      rw [← e1, show d 1 - m = 0 by omega]
      rfl
    · have hm5 := wf.2.2.2.2.1 m (by omega)
      have hlq := hle q
      have l2 : sBy d x m ≤ 1000000 := Nat.min_le_left _ _
      refine Ru_aload_n (pc := 16) dX7_firstMaking_16 rfl rfl ?_
      refine Ru_getR (pc := 17) t dX7_firstMaking_17 fl_X7_15 rfl rfl ((rfX_mut rfl rfl).trans htw) ?_
      refine Ru_getR (pc := 20) (t + 5) dX7_firstMaking_20 fl_X7_35 (shTown_0 ht) rfl (rfX_of (o := t) (j := 5) (shTown_0 ht) rfl) ?_
      refine Ru_iload_n (pc := 23) dX7_firstMaking_23 rfl rfl ?_
      refine Ru_iald (pc := 24) dX7_firstMaking_24 (shTown_5 ht) (by omega) ?_
      refine Ru_top (hx.2.2.1 m (by omega)).1 ?_
      refine Ru_iload_n (pc := 25) dX7_firstMaking_25 rfl rfl ?_
      refine Ru_icmp_neN (pc := 26) 56 dX7_firstMaking_26 (by decide) (by omega) (fun h2 => ?_) (fun h2 => ?_)
      · refine Ru_iincN (pc := 56) 1 dX7_firstMaking_56 rfl rfl rfl (by decide) ?_
        refine Ru_goto (pc := 59) 2 dX7_firstMaking_59 (by decide) ?_
        have e : sFm d x q (d 1 - (m + 1)) (m + 1) = sFirst d x q := by
          rw [← e1, show d 1 - m = (d 1 - (m + 1)) + 1 by omega, sFm, if_neg (fun z => ?_)]
          have z2 := of_decide_eq_true z
          omega
        exact Ru_weak (ih (d 1 - (m + 1)) (by omega) (m + 1) rfl (by omega) e) rfl
      · refine Ru_aload_n (pc := 29) dX7_firstMaking_29 rfl rfl ?_
        refine Ru_getR (pc := 30) 54 dX7_firstMaking_30 fl_X7_9 rfl rfl (rfX_of (o := 53) (j := 1) rfl rfl) ?_
        refine Ru_iload_n (pc := 33) dX7_firstMaking_33 rfl rfl ?_
        refine Ru_iald (pc := 34) dX7_firstMaking_34 rfl (by omega) ?_
        refine Ru_top (hs q (by omega)) ?_
        refine Ru_ldc (pc := 35) dX7_firstMaking_35 tw_1027 ?_
        refine Ru_top (show (1000000 : Int32) = nI 1000000 from rfl) ?_
        refine Ru_icmp_geN (pc := 37) 56 dX7_firstMaking_37 (by decide) (by omega) (fun h3 => ?_) (fun h3 => ?_)
        · refine Ru_iincN (pc := 56) 1 dX7_firstMaking_56 rfl rfl rfl (by decide) ?_
          refine Ru_goto (pc := 59) 2 dX7_firstMaking_59 (by decide) ?_
          have e : sFm d x q (d 1 - (m + 1)) (m + 1) = sFirst d x q := by
            rw [← e1, show d 1 - m = (d 1 - (m + 1)) + 1 by omega, sFm, if_neg (fun z => ?_)]
            have z2 := of_decide_eq_true z
            omega
          exact Ru_weak (ih (d 1 - (m + 1)) (by omega) (m + 1) rfl (by omega) e) rfl
        · refine Ru_aload_n (pc := 40) dX7_firstMaking_40 rfl rfl ?_
          refine Ru_iload_n (pc := 41) dX7_firstMaking_41 rfl rfl ?_
          refine Ru_cv1 (pc := 42) dX7_firstMaking_42 mv_X7_38 rfl (by decide) (Nat.le_of_ble_eq_true rfl) (c_X7_timeBy (x := x) ht hx wf htw (by omega) hs hle ?_) 
          refine Ru_aload_n (pc := 45) dX7_firstMaking_45 rfl rfl ?_
          refine Ru_getR (pc := 46) 54 dX7_firstMaking_46 fl_X7_9 rfl rfl (rfX_of (o := 53) (j := 1) rfl rfl) ?_
          refine Ru_iload_n (pc := 49) dX7_firstMaking_49 rfl rfl ?_
          refine Ru_iald (pc := 50) dX7_firstMaking_50 rfl (by omega) ?_
          refine Ru_top (hs q (by omega)) ?_
          refine Ru_icmp_neN (pc := 51) 56 dX7_firstMaking_51 (by decide) (by omega) (fun h4 => ?_) (fun h4 => ?_)
          · refine Ru_iincN (pc := 56) 1 dX7_firstMaking_56 rfl rfl rfl (by decide) ?_
            refine Ru_goto (pc := 59) 2 dX7_firstMaking_59 (by decide) ?_
            have e : sFm d x q (d 1 - (m + 1)) (m + 1) = sFirst d x q := by
              rw [← e1, show d 1 - m = (d 1 - (m + 1)) + 1 by omega, sFm, if_neg (fun z => ?_)]
              have z2 := of_decide_eq_true z
              omega
            exact Ru_weak (ih (d 1 - (m + 1)) (by omega) (m + 1) rfl (by omega) e) rfl
          · refine Ru_iload_n (pc := 54) dX7_firstMaking_54 rfl rfl ?_
            refine Ru_iret (pc := 55) dX7_firstMaking_55 rfl ⟨Nat.le_refl _, Nat.le_refl _⟩ ?_
            refine r_qe ?_ k
            have ok : sOk d x q m = true := decide_eq_true ⟨by omega, by omega, by omega⟩
            rw [← e1, show d 1 - m = (d 1 - (m + 1)) + 1 by omega, sFm, if_pos ok]
            rfl

theorem c_X7_firstMaking {Q : Rq} {M : Mem} {t : Nat} {d : Td} {q : Nat} {x : Nat → Nat} (ht : isTown t) (hx : X_tm t d M) (wf : Wf d) (htw : M.2.2 53 1 = some t) (hq : q < 8) (hs : ∀ k, k < 8 → M.1 54 k = nI (x k)) (hle : ∀ k, x k ≤ 1000000) (k : Q (some (.int (nM (sFirst d x q)))) GX M) : Ca 2 mt_X7_firstMaking 0 0 [.ref 53, .int (nI q)] GX M Q := by
  refine Ca_of rfl (Nat.le_of_ble_eq_true rfl) ?_
  refine Ru_iconst (pc := 0) (nI 0) dX7_firstMaking_0 rfl ?_
  refine Ru_istore_n (pc := 1) dX7_firstMaking_1 rfl rfl (by decide) ?_
  exact Ru_weak (l_X7_firstMaking ht hx wf htw hq hs hle k (d 1) 0 rfl (by omega) rfl) rfl

theorem l_X7_lastNeed {Q : Rq} {M : Mem} {t : Nat} {d : Td} {m : Nat} {x : Nat → Nat} (ht : isTown t) (hx : X_tm t d M) (wf : Wf d) (htw : M.2.2 53 1 = some t) (hm : m < d 1) (hs : ∀ k, k < 8 → M.1 54 k = nI (x k)) (hle : ∀ k, x k ≤ 1000000) (k : Q (some (.int (nM (sLn x (sNd d m) (d 0))))) GX M) : ∀ (w : Nat) (p : Nat), d 0 - p = w → (p ≤ d 0) → Ru 1 mt_X7_lastNeed r_z 4 [(2, some (.int (nM (sLn x (sNd d m) p)))), (3, some (.int (nI p))), (0, some (.ref 53)), (1, some (.int (nI m)))] [] GX M Q := by
  intro w
  induction w using Nat.strongRecOn with
  | ind w ih =>
    intro p hw hn
    subst hw
    have hb := wf.1
    have hm5 := wf.2.2.2.2.1 m hm
    have hp := pw_le hb.1
    have hnd : sNd d m < 2 ^ d 0 := r_or_lt hm5.2.2.2.1 hm5.2.2.2.2.1
    have em : (-1 : Int32).toInt = -1 := rfl
    have hl := sLn_le x (sNd d m) p
    have hz : (nM (sLn x (sNd d m) p)).toInt = (sLn x (sNd d m) p : Int) - 1 := nM_t (by omega)
    refine Ru_iload_n (pc := 4) dX7_lastNeed_4 rfl rfl ?_
    refine Ru_aload_n (pc := 5) dX7_lastNeed_5 rfl rfl ?_
    refine Ru_getR (pc := 6) t dX7_lastNeed_6 fl_X7_15 rfl rfl ((rfX_mut rfl rfl).trans htw) ?_
    refine Ru_getR (pc := 9) (t + 1) dX7_lastNeed_9 fl_X7_20 (shTown_0 ht) rfl (rfX_of (o := t) (j := 1) (shTown_0 ht) rfl) ?_
    refine Ru_getI (pc := 12) dX7_lastNeed_12 fl_X7_26 (shNames_0 (isNames_t ht).1) rfl ?_
    refine Ru_top hx.1.1 ?_
    refine Ru_icmp_geN (pc := 15) 73 dX7_lastNeed_15 (by decide) (by omega) (fun h1 => ?_) (fun h1 => ?_)
    · refine Ru_iload_n (pc := 73) dX7_lastNeed_73 rfl rfl ?_
      refine Ru_iret (pc := 74) dX7_lastNeed_74 rfl ⟨Nat.le_refl _, Nat.le_refl _⟩ ?_
      have ep : p = d 0 := by omega
      subst ep
      exact k
    · refine Ru_aload_n (pc := 18) dX7_lastNeed_18 rfl rfl ?_
      refine Ru_getR (pc := 19) t dX7_lastNeed_19 fl_X7_15 rfl rfl ((rfX_mut rfl rfl).trans htw) ?_
      refine Ru_iload_n (pc := 22) dX7_lastNeed_22 rfl rfl ?_
      refine Ru_cv1 (pc := 23) dX7_lastNeed_23 mv_X7_48 (shTown_0 ht) (by decide) (Nat.le_of_ble_eq_true rfl) (c_X9_needsS ht hx wf (by omega) ?_) 
      refine Ru_iload_n (pc := 26) dX7_lastNeed_26 rfl rfl ?_
      refine Ru_ishrN (pc := 27) dX7_lastNeed_27 (by omega) ?_
      refine Ru_iconst (pc := 28) (nI 1) dX7_lastNeed_28 rfl ?_
      refine Ru_iandN (pc := 29) dX7_lastNeed_29 ?_
      refine Ru_if_eqN (pc := 30) 37 dX7_lastNeed_30 (by decide) (Nat.lt_of_le_of_lt Nat.and_le_right (by decide)) (fun h2 => ?_) (fun h2 => ?_)
      · have h2b := r_b1_f h2
        refine Ru_iconst (pc := 37) (nI 0) dX7_lastNeed_37 rfl ?_
        refine Ru_istore (pc := 38) dX7_lastNeed_38 rfl (by decide) ?_
        refine Ru_iload (pc := 40) dX7_lastNeed_40 rfl ?_
        refine Ru_if_eqN (pc := 42) 67 dX7_lastNeed_42 (by decide) (by omega) (fun h3 => ?_) (fun h3 => ?_)
        · refine Ru_iincN (pc := 67) 1 dX7_lastNeed_67 rfl rfl rfl (by decide) ?_
          refine Ru_goto (pc := 70) 4 dX7_lastNeed_70 (by decide) ?_
          have e : sLn x (sNd d m) (p + 1) = sLn x (sNd d m) p := by
            rw [sLn]
            refine if_neg (fun z => ?_)
            rw [h2b] at z; cases z.1
          have hr := ih (d 0 - (p + 1)) (by omega) (p + 1) rfl (by omega)
          rw [e] at hr
          exact Ru_weak hr rfl
        · exfalso
          omega
      · have h2b := r_b1_t h2
        refine Ru_iconst (pc := 33) (nI 1) dX7_lastNeed_33 rfl ?_
        refine Ru_goto (pc := 34) 38 dX7_lastNeed_34 (by decide) ?_
        refine Ru_istore (pc := 38) dX7_lastNeed_38 rfl (by decide) ?_
        refine Ru_iload (pc := 40) dX7_lastNeed_40 rfl ?_
        refine Ru_if_eqN (pc := 42) 67 dX7_lastNeed_42 (by decide) (by omega) (fun h4 => ?_) (fun h4 => ?_)
        · exfalso
          omega
        · refine Ru_iload_n (pc := 45) dX7_lastNeed_45 rfl rfl ?_
          refine Ru_iconst (pc := 46) (-1) dX7_lastNeed_46 rfl ?_
          refine Ru_icmp_eqT (pc := 47) 65 dX7_lastNeed_47 (by decide) (fun h5 => ?_) (fun h5 => ?_)
          · refine Ru_iload_n (pc := 65) dX7_lastNeed_65 rfl rfl ?_
            refine Ru_istore_n (pc := 66) dX7_lastNeed_66 rfl rfl (by decide) ?_
            refine Ru_iincN (pc := 67) 1 dX7_lastNeed_67 rfl rfl rfl (by decide) ?_
            refine Ru_goto (pc := 70) 4 dX7_lastNeed_70 (by decide) ?_
            have e : sLn x (sNd d m) (p + 1) = p + 1 := by
              rw [sLn]
              refine if_pos ⟨h2b, ?_⟩
              left; omega
            have hr := ih (d 0 - (p + 1)) (by omega) (p + 1) rfl (by omega)
            rw [e] at hr
            exact Ru_weak hr rfl
          · obtain ⟨v, qz_ev⟩ : ∃ v, sLn x (sNd d m) p = v + 1 := ⟨sLn x (sNd d m) p - 1, by omega⟩
            rw [qz_ev]
            refine Ru_weak (L' := [(2, some (.int (nI v))), (3, some (.int (nI p))), (0, some (.ref 53)), (1, some (.int (nI m)))]) ?_ rfl
            have lv : v < p := by omega
            have lx1 := hle v
            have lx2 := hle p
            refine Ru_aload_n (pc := 50) dX7_lastNeed_50 rfl rfl ?_
            refine Ru_getR (pc := 51) 54 dX7_lastNeed_51 fl_X7_9 rfl rfl (rfX_of (o := 53) (j := 1) rfl rfl) ?_
            refine Ru_iload_n (pc := 54) dX7_lastNeed_54 rfl rfl ?_
            refine Ru_iald (pc := 55) dX7_lastNeed_55 rfl (by omega) ?_
            refine Ru_top (hs p (by omega)) ?_
            refine Ru_aload_n (pc := 56) dX7_lastNeed_56 rfl rfl ?_
            refine Ru_getR (pc := 57) 54 dX7_lastNeed_57 fl_X7_9 rfl rfl (rfX_of (o := 53) (j := 1) rfl rfl) ?_
            refine Ru_iload_n (pc := 60) dX7_lastNeed_60 rfl rfl ?_
            refine Ru_iald (pc := 61) dX7_lastNeed_61 rfl (by omega) ?_
            refine Ru_top (hs v (by omega)) ?_
            refine Ru_icmp_leN (pc := 62) 67 dX7_lastNeed_62 (by decide) (by omega) (fun h6 => ?_) (fun h6 => ?_)
            · refine Ru_iincN (pc := 67) 1 dX7_lastNeed_67 rfl rfl rfl (by decide) ?_
              refine Ru_goto (pc := 70) 4 dX7_lastNeed_70 (by decide) ?_
              have e : sLn x (sNd d m) (p + 1) = sLn x (sNd d m) p := by
                rw [sLn]
                refine if_neg (fun z => ?_)
                have z2 := z.2; rw [qz_ev, Nat.add_sub_cancel] at z2; omega
              have hr := ih (d 0 - (p + 1)) (by omega) (p + 1) rfl (by omega)
              rw [e] at hr
              rw [qz_ev] at hr
              exact Ru_weak hr rfl
            · refine Ru_iload_n (pc := 65) dX7_lastNeed_65 rfl rfl ?_
              refine Ru_istore_n (pc := 66) dX7_lastNeed_66 rfl rfl (by decide) ?_
              refine Ru_iincN (pc := 67) 1 dX7_lastNeed_67 rfl rfl rfl (by decide) ?_
              refine Ru_goto (pc := 70) 4 dX7_lastNeed_70 (by decide) ?_
              have e : sLn x (sNd d m) (p + 1) = p + 1 := by
                rw [sLn]
                refine if_pos ⟨h2b, ?_⟩
                right; rw [qz_ev, Nat.add_sub_cancel]; omega
              have hr := ih (d 0 - (p + 1)) (by omega) (p + 1) rfl (by omega)
              rw [e] at hr
              exact Ru_weak hr rfl

theorem c_X7_lastNeed {Q : Rq} {M : Mem} {t : Nat} {d : Td} {m : Nat} {x : Nat → Nat} (ht : isTown t) (hx : X_tm t d M) (wf : Wf d) (htw : M.2.2 53 1 = some t) (hm : m < d 1) (hs : ∀ k, k < 8 → M.1 54 k = nI (x k)) (hle : ∀ k, x k ≤ 1000000) (k : Q (some (.int (nM (sLn x (sNd d m) (d 0))))) GX M) : Ca 1 mt_X7_lastNeed 0 0 [.ref 53, .int (nI m)] GX M Q := by
  refine Ca_of rfl (Nat.le_of_ble_eq_true rfl) ?_
  refine Ru_iconst (pc := 0) (-1) dX7_lastNeed_0 rfl ?_
  refine Ru_istore_n (pc := 1) dX7_lastNeed_1 rfl rfl (by decide) ?_
  refine Ru_iconst (pc := 2) (nI 0) dX7_lastNeed_2 rfl ?_
  refine Ru_istore_n (pc := 3) dX7_lastNeed_3 rfl rfl (by decide) ?_
  exact Ru_weak (l_X7_lastNeed ht hx wf htw hm hs hle k (d 0) 0 rfl (by omega)) rfl

theorem l_X7_reckon1 {Q : Rq} {M0 : Mem} {t s : Nat} {d : Td} (ht : isTown t) (hx0 : X_tm t d M0) (wf : Wf d) (htw0 : M0.2.2 53 1 = some t) (hs8 : s < 256) (k : ∀ M, (∀ k, k < 8 → M.1 54 k = nI (sZ s k)) → r_fx [] [54] M0 M → Ru 2 mt_X7_reckon r_z 42 [(0, some (.ref 53)), (1, some (.ref t)), (2, some (.int (nI s)))] [] GX M Q) : ∀ (w : Nat) (n : Nat) (M : Mem), 8 - n = w → (n ≤ 8) → (∀ k, k < n → M.1 54 k = nI (sZ s k)) → (r_fx [] [54] M0 M) → Ru 2 mt_X7_reckon r_z 7 [(3, some (.int (nI n))), (0, some (.ref 53)), (1, some (.ref t)), (2, some (.int (nI s)))] [] GX M Q := by
  intro w
  induction w using Nat.strongRecOn with
  | ind w ih =>
    intro n M hw hn h54 fx
    subst hw
    have hb := wf.1
    have hx : X_tm t d M := (X_tm_dp ht d).kp fx rfl hx0
    have htw : M.2.2 53 1 = some t := (fx 53 1 rfl).2.2.trans htw0
    refine Ru_iload_n (pc := 7) dX7_reckon_7 rfl rfl ?_
    refine Ru_aload_n (pc := 8) dX7_reckon_8 rfl rfl ?_
    refine Ru_getR (pc := 9) 54 dX7_reckon_9 fl_X7_9 rfl rfl (rfX_of (o := 53) (j := 1) rfl rfl) ?_
    refine Ru_alen (pc := 12) dX7_reckon_12 rfl (by decide) ?_
    refine Ru_icmp_geN (pc := 13) 42 dX7_reckon_13 (by decide) (by omega) (fun h1 => ?_) (fun h1 => ?_)
    · have e8 : n = 8 := by omega
      subst e8
      exact Ru_weak (k _ h54 fx) rfl
    · refine Ru_aload_n (pc := 16) dX7_reckon_16 rfl rfl ?_
      refine Ru_getR (pc := 17) 54 dX7_reckon_17 fl_X7_9 rfl rfl (rfX_of (o := 53) (j := 1) rfl rfl) ?_
      refine Ru_iload_n (pc := 20) dX7_reckon_20 rfl rfl ?_
      refine Ru_iload_n (pc := 21) dX7_reckon_21 rfl rfl ?_
      refine Ru_iload_n (pc := 22) dX7_reckon_22 rfl rfl ?_
      refine Ru_ishrN (pc := 23) dX7_reckon_23 (by omega) ?_
      refine Ru_iconst (pc := 24) (nI 1) dX7_reckon_24 rfl ?_
      refine Ru_iandN (pc := 25) dX7_reckon_25 ?_
      refine Ru_if_eqN (pc := 26) 33 dX7_reckon_26 (by decide) (Nat.lt_of_le_of_lt Nat.and_le_right (by decide)) (fun h2 => ?_) (fun h2 => ?_)
      · have h2b := r_b1_f h2
        refine Ru_ldc (pc := 33) dX7_reckon_33 tw_1027 ?_
        refine Ru_top (show (1000000 : Int32) = nI 1000000 from rfl) ?_
        refine Ru_iast (pc := 35) rfl dX7_reckon_35 rfl (by omega) ?_
        refine Ru_iincN (pc := 36) 1 dX7_reckon_36 rfl rfl rfl (by decide) ?_
        refine Ru_goto (pc := 39) 7 dX7_reckon_39 (by decide) ?_
        have e : sZ s n = 1000000 := by
          unfold sZ
          rw [h2b]
          rfl
        exact Ru_weak (ih (8 - (n + 1)) (by omega) (n + 1) _ rfl (by omega) (r_ext h54 (by rw [e])) (r_fx.sI rfl fx)) rfl
      · have h2b := r_b1_t h2
        refine Ru_iconst (pc := 29) (nI 0) dX7_reckon_29 rfl ?_
        refine Ru_goto (pc := 30) 35 dX7_reckon_30 (by decide) ?_
        refine Ru_iast (pc := 35) rfl dX7_reckon_35 rfl (by omega) ?_
        refine Ru_iincN (pc := 36) 1 dX7_reckon_36 rfl rfl rfl (by decide) ?_
        refine Ru_goto (pc := 39) 7 dX7_reckon_39 (by decide) ?_
        have e : sZ s n = 0 := by
          unfold sZ
          rw [h2b]
          rfl
        exact Ru_weak (ih (8 - (n + 1)) (by omega) (n + 1) _ rfl (by omega) (r_ext h54 (by rw [e])) (r_fx.sI rfl fx)) rfl

theorem l_X7_reckon3 {Q : Rq} {M0 : Mem} {t s : Nat} {d : Td} (ht : isTown t) (hx0 : X_tm t d M0) (wf : Wf d) (htw0 : M0.2.2 53 1 = some t) (hs8 : s < 256) {r : Nat} {x : Nat → Nat} (hle : ∀ k, x k ≤ 1000000) (k : ∀ M, (∀ k, k < 8 → M.1 54 k = nI (sRow d (d 1) x k)) → r_fx [] [54] M0 M → Ru 2 mt_X7_reckon r_z 117 [(3, some (.int (nI r))), (0, some (.ref 53)), (1, some (.ref t)), (2, some (.int (nI s)))] [] GX M Q) : ∀ (w : Nat) (m : Nat) (M : Mem), d 1 - m = w → (m ≤ d 1) → (∀ k, k < 8 → M.1 54 k = nI (sRow d m x k)) → (r_fx [] [54] M0 M) → Ru 2 mt_X7_reckon r_z 61 [(4, some (.int (nI m))), (3, some (.int (nI r))), (0, some (.ref 53)), (1, some (.ref t)), (2, some (.int (nI s)))] [] GX M Q := by
  intro w
  induction w using Nat.strongRecOn with
  | ind w ih =>
    intro m M hw hn hs fx
    subst hw
    have hb := wf.1
    have hx : X_tm t d M := (X_tm_dp ht d).kp fx rfl hx0
    have htw : M.2.2 53 1 = some t := (fx 53 1 rfl).2.2.trans htw0
    have hl2 : ∀ k, sRow d m x k ≤ 1000000 := fun k => Nat.le_trans (sRow_le d x k m) (hle k)
    refine Ru_iload (pc := 61) dX7_reckon_61 rfl ?_
    refine Ru_aload_n (pc := 63) dX7_reckon_63 rfl rfl ?_
    refine Ru_getR (pc := 64) t dX7_reckon_64 fl_X7_15 rfl rfl ((rfX_mut rfl rfl).trans htw) ?_
    refine Ru_getR (pc := 67) (t + 3) dX7_reckon_67 fl_X7_32 (shTown_0 ht) rfl (rfX_of (o := t) (j := 3) (shTown_0 ht) rfl) ?_
    refine Ru_getI (pc := 70) dX7_reckon_70 fl_X7_26 (shNames_0 (isNames_t ht).2.1) rfl ?_
    refine Ru_top hx.1.2.1 ?_
    refine Ru_icmp_geN (pc := 73) 117 dX7_reckon_73 (by decide) (by omega) (fun h1 => ?_) (fun h1 => ?_)
    · have em : m = d 1 := by omega
      subst em
      exact Ru_weak (k _ hs fx) rfl
    · have hm5 := wf.2.2.2.2.1 m (by omega)
      have l1 := hl2 (d (29 + m))
      have l2 : sBy d (sRow d m x) m ≤ 1000000 := Nat.min_le_left _ _
      refine Ru_aload_n (pc := 76) dX7_reckon_76 rfl rfl ?_
      refine Ru_getR (pc := 77) t dX7_reckon_77 fl_X7_15 rfl rfl ((rfX_mut rfl rfl).trans htw) ?_
      refine Ru_getR (pc := 80) (t + 5) dX7_reckon_80 fl_X7_35 (shTown_0 ht) rfl (rfX_of (o := t) (j := 5) (shTown_0 ht) rfl) ?_
      refine Ru_iload (pc := 83) dX7_reckon_83 rfl ?_
      refine Ru_iald (pc := 85) dX7_reckon_85 (shTown_5 ht) (by omega) ?_
      refine Ru_top (hx.2.2.1 m (by omega)).1 ?_
      refine Ru_istore (pc := 86) dX7_reckon_86 rfl (by decide) ?_
      refine Ru_aload_n (pc := 88) dX7_reckon_88 rfl rfl ?_
      refine Ru_getR (pc := 89) 54 dX7_reckon_89 fl_X7_9 rfl rfl (rfX_of (o := 53) (j := 1) rfl rfl) ?_
      refine Ru_iload (pc := 92) dX7_reckon_92 rfl ?_
      refine Ru_aload_n (pc := 94) dX7_reckon_94 rfl rfl ?_
      refine Ru_getR (pc := 95) 54 dX7_reckon_95 fl_X7_9 rfl rfl (rfX_of (o := 53) (j := 1) rfl rfl) ?_
      refine Ru_iload (pc := 98) dX7_reckon_98 rfl ?_
      refine Ru_iald (pc := 100) dX7_reckon_100 rfl (by omega) ?_
      refine Ru_top (hs (d (29 + m)) (by omega)) ?_
      refine Ru_aload_n (pc := 101) dX7_reckon_101 rfl rfl ?_
      refine Ru_iload (pc := 102) dX7_reckon_102 rfl ?_
      refine Ru_cv1 (pc := 104) dX7_reckon_104 mv_X7_38 rfl (by decide) (Nat.le_of_ble_eq_true rfl) (c_X7_timeBy (x := sRow d m x) ht hx wf htw (by omega) hs hl2 ?_) 
      refine Ru_cs2 (pc := 107) dX7_reckon_107 ms_X7_42 (by decide) (Nat.le_of_ble_eq_true rfl) (c_X_minN (by omega) (by omega) ?_) 
      refine Ru_iast (pc := 110) rfl dX7_reckon_110 rfl (by omega) ?_
      refine Ru_iincN (pc := 111) 1 dX7_reckon_111 rfl rfl rfl (by decide) ?_
      refine Ru_goto (pc := 114) 61 dX7_reckon_114 (by decide) ?_
      exact Ru_weak (ih (d 1 - (m + 1)) (by omega) (m + 1) _ rfl (by omega) (r_upd hs (fun _ => by rw [show sRow d (m + 1) x (d (29 + m)) = min (sRow d m x (d (29 + m))) (sBy d (sRow d m x) m) from if_pos rfl]) (fun k _ hk => by show nI (sUp d m (sRow d m x) k) = _; rw [sUp_out hk])) (r_fx.sI rfl fx)) rfl

theorem l_X7_reckon2 {Q : Rq} {M0 : Mem} {t s : Nat} {d : Td} (ht : isTown t) (hx0 : X_tm t d M0) (wf : Wf d) (htw0 : M0.2.2 53 1 = some t) (hs8 : s < 256) (k : ∀ M, (∀ k, k < 8 → M.1 54 k = nI (sT d s k)) → r_fx [] [54] M0 M → Q none GX M) : ∀ (w : Nat) (r : Nat) (M : Mem), d 0 - r = w → (r ≤ d 0) → (∀ k, k < 8 → M.1 54 k = nI (sRnd d r (sZ s) k)) → (r_fx [] [54] M0 M) → Ru 2 mt_X7_reckon r_z 44 [(3, some (.int (nI r))), (0, some (.ref 53)), (1, some (.ref t)), (2, some (.int (nI s)))] [] GX M Q := by
  intro w
  induction w using Nat.strongRecOn with
  | ind w ih =>
    intro r M hw hr hs fx
    subst hw
    have hb := wf.1
    have hx : X_tm t d M := (X_tm_dp ht d).kp fx rfl hx0
    have htw : M.2.2 53 1 = some t := (fx 53 1 rfl).2.2.trans htw0
    refine Ru_iload_n (pc := 44) dX7_reckon_44 rfl rfl ?_
    refine Ru_aload_n (pc := 45) dX7_reckon_45 rfl rfl ?_
    refine Ru_getR (pc := 46) t dX7_reckon_46 fl_X7_15 rfl rfl ((rfX_mut rfl rfl).trans htw) ?_
    refine Ru_getR (pc := 49) (t + 1) dX7_reckon_49 fl_X7_20 (shTown_0 ht) rfl (rfX_of (o := t) (j := 1) (shTown_0 ht) rfl) ?_
    refine Ru_getI (pc := 52) dX7_reckon_52 fl_X7_26 (shNames_0 (isNames_t ht).1) rfl ?_
    refine Ru_top hx.1.1 ?_
    refine Ru_icmp_geN (pc := 55) 123 dX7_reckon_55 (by decide) (by omega) (fun h1 => ?_) (fun h1 => ?_)
    · refine Ru_vret (pc := 123) dX7_reckon_123 rfl ⟨Nat.le_refl _, Nat.le_refl _⟩ ?_
      have er : r = d 0 := by omega
      subst er
      exact k _ hs fx
    · refine Ru_iconst (pc := 58) (nI 0) dX7_reckon_58 rfl ?_
      refine Ru_istore (pc := 59) dX7_reckon_59 rfl (by decide) ?_
      refine Ru_weak (l_X7_reckon3 (M0 := M0) (r := r) (x := sRnd d r (sZ s)) ht hx0 wf htw0 hs8 (fun k => Nat.le_trans (sRnd_le d _ k r) (sZ_le s k)) (fun M' g gx => ?_) (d 1) 0 _ rfl (Nat.zero_le _) hs fx) rfl
      refine Ru_iincN (pc := 117) 1 dX7_reckon_117 rfl rfl rfl (by decide) ?_
      refine Ru_goto (pc := 120) 44 dX7_reckon_120 (by decide) ?_
      exact Ru_weak (ih (d 0 - (r + 1)) (by omega) (r + 1) M' rfl (by omega) g gx) rfl

theorem c_X7_reckon {Q : Rq} {M : Mem} {t s : Nat} {d : Td} (ht : isTown t) (hx : X_tm t d M) (wf : Wf d) (hs8 : s < 256) (k : ∀ M', (∀ k, k < 8 → M'.1 54 k = nI (sT d s k)) → M'.2.2 53 1 = some t → r_fx [(53, 1)] [54] M M' → Q none GX M') : Ca 2 mt_X7_reckon 0 0 [.ref 53, .ref t, .int (nI s)] GX M Q := by
  refine Ca_of rfl (Nat.le_of_ble_eq_true rfl) ?_
  refine Ru_aload_n (pc := 0) dX7_reckon_0 rfl rfl ?_
  refine Ru_aload_n (pc := 1) dX7_reckon_1 rfl rfl ?_
  refine Ru_putR (pc := 2) rfl dX7_reckon_2 fl_X7_15 rfl (frX_none (o := 53) (ci := 7) (k := 1) rfl rfl) ?_
  refine Ru_iconst (pc := 5) (nI 0) dX7_reckon_5 rfl ?_
  refine Ru_istore_n (pc := 6) dX7_reckon_6 rfl rfl (by decide) ?_
  have fx0 : r_fx [(53, 1)] [54] M (r_sR M 53 1 (some t)) := r_fx.sR rfl r_fx.rf
  have hx1 : X_tm t d (r_sR M 53 1 (some t)) := (X_tm_dp ht d).kp fx0 rfl hx
  have ht1 : (r_sR M 53 1 (some t)).2.2 53 1 = some t := by simp [r_sR_g]
  generalize r_sR M 53 1 (some t) = M1 at *
  refine Ru_weak (l_X7_reckon1 (M0 := M1) ht hx1 wf ht1 hs8 (fun M2 g2 gx2 => ?_) 8 0 M1 rfl (by omega) (fun k hk => by omega) r_fx.rf) rfl
  refine Ru_iconst (pc := 42) (nI 0) dX7_reckon_42 rfl ?_
  refine Ru_istore_n (pc := 43) dX7_reckon_43 rfl rfl (by decide) ?_
  exact Ru_weak (l_X7_reckon2 (M0 := M1) ht hx1 wf ht1 hs8 (fun M3 g3 gx3 => k M3 g3 ((gx3 53 1 rfl).2.2.trans ht1) (fx0.tr (gx3.mono rfl))) (d 0) 0 M2 rfl (Nat.zero_le _) g2 gx2) rfl
