theorem dMf_no {d : Td} {V : Vt} {t s m : Nat} (h : ¬ lCan d m s = true) : dMf d V t s (m + 1) = dMf d V t s m := by
  rw [dMf, if_neg (fun z => h z.1)]
theorem lCan_of {d : Td} {m s : Nat} (h1 : d (53 + m) = 1) (h2 : r_dif (sNd d m) s = 0) : lCan d m s = true := by
  unfold lCan
  rw [decide_eq_true h1, decide_eq_true h2]
  rfl
theorem lCan_in {d : Td} {m s : Nat} (h : lCan d m s = true) : r_dif (sNd d m) s = 0 := by
  unfold lCan at h
  rw [Bool.and_eq_true] at h
  exact of_decide_eq_true h.2
theorem dBm_plain {d : Td} {V : Vt} {m t s : Nat} (h : ∀ i, i < d (41 + m) - 1 → wAtT d (t + 1 + i) = []) : dBm d V m t s = V (t + d (41 + m)) (lMade d m s) := by
  unfold dBm lMade
  rw [wR_none _ h]
  exact Nat.zero_add _

theorem l_X0_beginAll {Q : Rq} {M0 : Mem} {t m tm : Nat} {d : Td} {V : Vt} (ht : isTown t) (hx0 : X_tm t d M0) (wf : Wf d) (htw0 : M0.2.2 55 0 = some t) (hm : m < d 1) (h1h : d (53 + m) = 1) (hte : tm + d (41 + m) ≤ 24) (hV0 : ∀ t' s', tm < t' → t' ≤ 24 → s' < 2 ^ d 0 → M0.1 56 (t' * 256 + s') = nI (V t' s')) (hVb : ∀ t' s', V t' s' ≤ 100000000) (k : ∀ M', r_fx [(61, 0), (61, 1), (61, 2)] [56] M0 M' → (∀ i, tm * 256 + 256 ≤ i → M'.1 56 i = M0.1 56 i) → (∀ s', s' < 2 ^ d 0 → M'.1 56 (tm * 256 + s') = nI (dMf d V tm s' (m + 1))) → Q none GX M') : ∀ (zw : Nat) (s : Nat) (M : Mem), 2 ^ d 0 - s = zw → (s < 2 ^ 9) → (r_dif (sNd d m) s = 0) → (∀ s', s' < 2 ^ d 0 → M.1 56 (tm * 256 + s') = nI (dMf d V tm s' (if s' < s then m + 1 else m))) → (∀ i, tm * 256 + 256 ≤ i → M.1 56 i = M0.1 56 i) → (r_fx [(61, 0), (61, 1), (61, 2)] [56] M0 M) → Ru 3 mt_X0_beginAll r_z 39 [(3, some (.int (nI (sNd d m)))), (4, some (.int (nI (tm + d (41 + m))))), (5, some (.int (r_b (decide ((ordH d (tm + 1)).length < (ordH d (tm + d (41 + m))).length))))), (6, some (.int (nI s))), (0, some (.ref 55)), (1, some (.int (nI m))), (2, some (.int (nI tm)))] [] GX M Q := by
  intro zw
  induction zw using Nat.strongRecOn with
  | ind zw ih =>
    intro s M hw hs9 hsup hrow hout fx
    subst hw
    have hb := wf.1
    have hp := pw_le hb.1
    have hm5 := wf.2.2.2.2.1 m hm
    have hx : X_tm t d M := (X_tm_dp ht d).kp fx rfl hx0
    have htw : M.2.2 55 0 = some t := (fx 55 0 rfl).2.2.trans htw0
    have hV : ∀ t' s', tm < t' → t' ≤ 24 → s' < 2 ^ d 0 → M.1 56 (t' * 256 + s') = nI (V t' s') := fun t' s' h1 h2 h3 => (hout _ (by omega)).trans (hV0 t' s' h1 h2 h3)
    refine Ru_iload (pc := 39) dX0_beginAll_39 rfl ?_
    refine Ru_aload_n (pc := 41) dX0_beginAll_41 rfl rfl ?_
    refine Ru_getR (pc := 42) t dX0_beginAll_42 fl_X0_50 rfl rfl ((rfX_mut rfl rfl).trans htw) ?_
    refine Ru_cv0 (pc := 45) dX0_beginAll_45 mv_X0_68 (shTown_0 ht) (by decide) (Nat.le_of_ble_eq_true rfl) (c_X9_sets ht hx wf ?_) 
    refine Ru_icmp_geN (pc := 48) 132 dX0_beginAll_48 (by decide) (by omega) (fun h1 => ?_) (fun h1 => ?_)
    · refine Ru_vret (pc := 132) dX0_beginAll_132 rfl ⟨Nat.le_refl _, Nat.le_refl _⟩ ?_
      exact k _ fx hout (fun s' hs' => (hrow s' hs').trans (by rw [if_pos (by omega)]))
    · have hml := lMade_lt wf hm (show s < 2 ^ d 0 by omega)
      have hdb := dBm_b2 wf (t := tm) (s := s) hm hVb
      have hdm := dMf_b2 wf (t := tm) (s := s) hVb m (by omega)
      refine Ru_iload (pc := 51) dX0_beginAll_51 rfl ?_
      refine Ru_if_eqB (pc := 53) 67 dX0_beginAll_53 (by decide) (fun h2 => ?_) (fun h2 => ?_)
      · replace h2 := of_decide_eq_false h2
        have hask := h2
        refine Ru_aload_n (pc := 67) dX0_beginAll_67 rfl rfl ?_
        refine Ru_getR (pc := 68) 56 dX0_beginAll_68 fl_X0_9 rfl rfl (rfX_of (o := 55) (j := 1) rfl rfl) ?_
        refine Ru_iload (pc := 71) dX0_beginAll_71 rfl ?_
        refine Ru_sipush (pc := 73) (nI 256) dX0_beginAll_73 rfl ?_
        refine Ru_imulN (pc := 76) dX0_beginAll_76 ?_
        refine Ru_aload_n (pc := 77) dX0_beginAll_77 rfl rfl ?_
        refine Ru_iload_n (pc := 78) dX0_beginAll_78 rfl rfl ?_
        refine Ru_iload (pc := 79) dX0_beginAll_79 rfl ?_
        refine Ru_cv2 (pc := 81) dX0_beginAll_81 mv_X0_131 rfl (by decide) (Nat.le_of_ble_eq_true rfl) (c_X0_made ht hx wf htw (by omega) ?_) 
        refine Ru_iaddN (pc := 84) dX0_beginAll_84 ?_
        refine Ru_iald (pc := 85) dX0_beginAll_85 rfl (by omega) ?_
        refine Ru_top (hV (tm + d (41 + m)) (lMade d m s) (by omega) (by omega) hml) ?_
        refine Ru_istore (pc := 86) dX0_beginAll_86 rfl (by decide) ?_
        have hpl : dBm d V m tm s = (V (tm + d (41 + m)) (lMade d m s)) := dBm_plain (fun i hi => ask_f (f := tm + 1) (n := d (41 + m) - 1) (by rw [show tm + 1 + (d (41 + m) - 1) = tm + d (41 + m) by omega]; omega) i hi)
        rw [← hpl]
        refine Ru_iload (pc := 88) dX0_beginAll_88 rfl ?_
        refine Ru_aload_n (pc := 90) dX0_beginAll_90 rfl rfl ?_
        refine Ru_getR (pc := 91) 56 dX0_beginAll_91 fl_X0_9 rfl rfl (rfX_of (o := 55) (j := 1) rfl rfl) ?_
        refine Ru_iload_n (pc := 94) dX0_beginAll_94 rfl rfl ?_
        refine Ru_sipush (pc := 95) (nI 256) dX0_beginAll_95 rfl ?_
        refine Ru_imulN (pc := 98) dX0_beginAll_98 ?_
        refine Ru_iload (pc := 99) dX0_beginAll_99 rfl ?_
        refine Ru_iaddN (pc := 101) dX0_beginAll_101 ?_
        refine Ru_iald (pc := 102) dX0_beginAll_102 rfl (by omega) ?_
        refine Ru_top ((hrow s (by omega)).trans (by rw [if_neg (by omega)])) ?_
        refine Ru_icmp_leN (pc := 103) 121 dX0_beginAll_103 (by decide) (by omega) (fun h3 => ?_) (fun h3 => ?_)
        · refine Ru_iload (pc := 121) dX0_beginAll_121 rfl ?_
          refine Ru_iconst (pc := 123) (nI 1) dX0_beginAll_123 rfl ?_
          refine Ru_iaddN (pc := 124) dX0_beginAll_124 ?_
          refine Ru_iload_n (pc := 125) dX0_beginAll_125 rfl rfl ?_
          refine Ru_iorN (pc := 126) dX0_beginAll_126 ?_
          refine Ru_istore (pc := 127) dX0_beginAll_127 rfl (by decide) ?_
          refine Ru_goto (pc := 129) 39 dX0_beginAll_129 (by decide) ?_
          have hmx : dMf d V tm s (m + 1) = max (dMf d V tm s m) (dBm d V m tm s) := by
            rw [dMf, if_pos ⟨lCan_of h1h hsup, hte⟩]
          have hnx : s + 1 ≤ (s + 1) ||| sNd d m := Nat.left_le_or
          have hn9 : (s + 1) ||| sNd d m < 2 ^ 9 := r_or_lt (by omega) (by have : sNd d m < 2 ^ d 0 := r_or_lt hm5.2.2.2.1 hm5.2.2.2.2.1; omega)
          refine Ru_weak (ih (2 ^ d 0 - ((s + 1) ||| sNd d m)) (by omega) ((s + 1) ||| sNd d m) _ rfl hn9 (sup_or _ _) (fun s' hs' => ?_) (fun i hi => ?_) fx) rfl
          · skip
            by_cases es : s' = s
            · subst es
              rw [if_pos (show s' < (s' + 1) ||| sNd d m by omega), hmx]
              have h9 := ((hrow s' hs').trans (by rw [if_neg (by omega)]))
              rw [h9]
              congr 1
              omega
            · skip
              have h9 := (hrow s' hs')
              rw [h9]
              by_cases l1 : s' < s
              · rw [if_pos l1, if_pos (by omega)]
              · rw [if_neg l1]
                split
                · rename_i l2
                  refine congrArg nI (dMf_no (fun z => ?_)).symm
                  have := sup_nx s' s (sNd d m) hsup (lCan_in z) (by omega)
                  omega
                · rfl
          · skip
            exact (hout i hi)
        · refine Ru_aload_n (pc := 106) dX0_beginAll_106 rfl rfl ?_
          refine Ru_getR (pc := 107) 56 dX0_beginAll_107 fl_X0_9 rfl rfl (rfX_of (o := 55) (j := 1) rfl rfl) ?_
          refine Ru_iload_n (pc := 110) dX0_beginAll_110 rfl rfl ?_
          refine Ru_sipush (pc := 111) (nI 256) dX0_beginAll_111 rfl ?_
          refine Ru_imulN (pc := 114) dX0_beginAll_114 ?_
          refine Ru_iload (pc := 115) dX0_beginAll_115 rfl ?_
          refine Ru_iaddN (pc := 117) dX0_beginAll_117 ?_
          refine Ru_iload (pc := 118) dX0_beginAll_118 rfl ?_
          refine Ru_iast (pc := 120) rfl dX0_beginAll_120 rfl (by omega) ?_
          refine Ru_iload (pc := 121) dX0_beginAll_121 rfl ?_
          refine Ru_iconst (pc := 123) (nI 1) dX0_beginAll_123 rfl ?_
          refine Ru_iaddN (pc := 124) dX0_beginAll_124 ?_
          refine Ru_iload_n (pc := 125) dX0_beginAll_125 rfl rfl ?_
          refine Ru_iorN (pc := 126) dX0_beginAll_126 ?_
          refine Ru_istore (pc := 127) dX0_beginAll_127 rfl (by decide) ?_
          refine Ru_goto (pc := 129) 39 dX0_beginAll_129 (by decide) ?_
          have hmx : dMf d V tm s (m + 1) = max (dMf d V tm s m) (dBm d V m tm s) := by
            rw [dMf, if_pos ⟨lCan_of h1h hsup, hte⟩]
          have hnx : s + 1 ≤ (s + 1) ||| sNd d m := Nat.left_le_or
          have hn9 : (s + 1) ||| sNd d m < 2 ^ 9 := r_or_lt (by omega) (by have : sNd d m < 2 ^ d 0 := r_or_lt hm5.2.2.2.1 hm5.2.2.2.2.1; omega)
          refine Ru_weak (ih (2 ^ d 0 - ((s + 1) ||| sNd d m)) (by omega) ((s + 1) ||| sNd d m) _ rfl hn9 (sup_or _ _) (fun s' hs' => ?_) (fun i hi => ?_) (r_fx.sI rfl fx)) rfl
          · rw [r_sI_g]
            by_cases es : s' = s
            · subst es
              rw [if_pos (show s' < (s' + 1) ||| sNd d m by omega), hmx]
              rw [if_pos ⟨rfl, rfl⟩]
              congr 1
              omega
            · rw [if_neg (by omega)]
              have h9 := (hrow s' hs')
              rw [h9]
              by_cases l1 : s' < s
              · rw [if_pos l1, if_pos (by omega)]
              · rw [if_neg l1]
                split
                · rename_i l2
                  refine congrArg nI (dMf_no (fun z => ?_)).symm
                  have := sup_nx s' s (sNd d m) hsup (lCan_in z) (by omega)
                  omega
                · rfl
          · rw [r_sI_n (by omega)]
            exact (hout i hi)
      · replace h2 := of_decide_eq_true h2
        refine Ru_aload_n (pc := 56) dX0_beginAll_56 rfl rfl ?_
        refine Ru_iload_n (pc := 57) dX0_beginAll_57 rfl rfl ?_
        refine Ru_iload_n (pc := 58) dX0_beginAll_58 rfl rfl ?_
        refine Ru_iload (pc := 59) dX0_beginAll_59 rfl ?_
        refine Ru_cv3 (pc := 61) dX0_beginAll_61 mv_X0_127 rfl (by decide) (Nat.le_of_ble_eq_true rfl) (c_X0_begun (V := V) ht hx wf htw hm hte (by omega) hV (fun z => absurd hsup z) (fun M2 _ gx2 => ?_)) 
        have fx2 : r_fx [(61, 0), (61, 1), (61, 2)] [56] M0 M2 := fx.tr (gx2.mono rfl)
        refine Ru_goto (pc := 64) 86 dX0_beginAll_64 (by decide) ?_
        refine Ru_istore (pc := 86) dX0_beginAll_86 rfl (by decide) ?_
        refine Ru_iload (pc := 88) dX0_beginAll_88 rfl ?_
        refine Ru_aload_n (pc := 90) dX0_beginAll_90 rfl rfl ?_
        refine Ru_getR (pc := 91) 56 dX0_beginAll_91 fl_X0_9 rfl rfl (rfX_of (o := 55) (j := 1) rfl rfl) ?_
        refine Ru_iload_n (pc := 94) dX0_beginAll_94 rfl rfl ?_
        refine Ru_sipush (pc := 95) (nI 256) dX0_beginAll_95 rfl ?_
        refine Ru_imulN (pc := 98) dX0_beginAll_98 ?_
        refine Ru_iload (pc := 99) dX0_beginAll_99 rfl ?_
        refine Ru_iaddN (pc := 101) dX0_beginAll_101 ?_
        refine Ru_iald (pc := 102) dX0_beginAll_102 rfl (by omega) ?_
        refine Ru_top ((gx2 56 _ rfl).1.trans ((hrow s (by omega)).trans (by rw [if_neg (by omega)]))) ?_
        refine Ru_icmp_leN (pc := 103) 121 dX0_beginAll_103 (by decide) (by omega) (fun h4 => ?_) (fun h4 => ?_)
        · refine Ru_iload (pc := 121) dX0_beginAll_121 rfl ?_
          refine Ru_iconst (pc := 123) (nI 1) dX0_beginAll_123 rfl ?_
          refine Ru_iaddN (pc := 124) dX0_beginAll_124 ?_
          refine Ru_iload_n (pc := 125) dX0_beginAll_125 rfl rfl ?_
          refine Ru_iorN (pc := 126) dX0_beginAll_126 ?_
          refine Ru_istore (pc := 127) dX0_beginAll_127 rfl (by decide) ?_
          refine Ru_goto (pc := 129) 39 dX0_beginAll_129 (by decide) ?_
          have hmx : dMf d V tm s (m + 1) = max (dMf d V tm s m) (dBm d V m tm s) := by
            rw [dMf, if_pos ⟨lCan_of h1h hsup, hte⟩]
          have hnx : s + 1 ≤ (s + 1) ||| sNd d m := Nat.left_le_or
          have hn9 : (s + 1) ||| sNd d m < 2 ^ 9 := r_or_lt (by omega) (by have : sNd d m < 2 ^ d 0 := r_or_lt hm5.2.2.2.1 hm5.2.2.2.2.1; omega)
          refine Ru_weak (ih (2 ^ d 0 - ((s + 1) ||| sNd d m)) (by omega) ((s + 1) ||| sNd d m) _ rfl hn9 (sup_or _ _) (fun s' hs' => ?_) (fun i hi => ?_) fx2) rfl
          · skip
            by_cases es : s' = s
            · subst es
              rw [if_pos (show s' < (s' + 1) ||| sNd d m by omega), hmx]
              have h9 := ((gx2 56 _ rfl).1.trans ((hrow s' hs').trans (by rw [if_neg (by omega)])))
              rw [h9]
              congr 1
              omega
            · skip
              have h9 := ((gx2 56 _ rfl).1.trans (hrow s' hs'))
              rw [h9]
              by_cases l1 : s' < s
              · rw [if_pos l1, if_pos (by omega)]
              · rw [if_neg l1]
                split
                · rename_i l2
                  refine congrArg nI (dMf_no (fun z => ?_)).symm
                  have := sup_nx s' s (sNd d m) hsup (lCan_in z) (by omega)
                  omega
                · rfl
          · skip
            exact ((gx2 56 _ rfl).1.trans (hout i hi))
        · refine Ru_aload_n (pc := 106) dX0_beginAll_106 rfl rfl ?_
          refine Ru_getR (pc := 107) 56 dX0_beginAll_107 fl_X0_9 rfl rfl (rfX_of (o := 55) (j := 1) rfl rfl) ?_
          refine Ru_iload_n (pc := 110) dX0_beginAll_110 rfl rfl ?_
          refine Ru_sipush (pc := 111) (nI 256) dX0_beginAll_111 rfl ?_
          refine Ru_imulN (pc := 114) dX0_beginAll_114 ?_
          refine Ru_iload (pc := 115) dX0_beginAll_115 rfl ?_
          refine Ru_iaddN (pc := 117) dX0_beginAll_117 ?_
          refine Ru_iload (pc := 118) dX0_beginAll_118 rfl ?_
          refine Ru_iast (pc := 120) rfl dX0_beginAll_120 rfl (by omega) ?_
          refine Ru_iload (pc := 121) dX0_beginAll_121 rfl ?_
          refine Ru_iconst (pc := 123) (nI 1) dX0_beginAll_123 rfl ?_
          refine Ru_iaddN (pc := 124) dX0_beginAll_124 ?_
          refine Ru_iload_n (pc := 125) dX0_beginAll_125 rfl rfl ?_
          refine Ru_iorN (pc := 126) dX0_beginAll_126 ?_
          refine Ru_istore (pc := 127) dX0_beginAll_127 rfl (by decide) ?_
          refine Ru_goto (pc := 129) 39 dX0_beginAll_129 (by decide) ?_
          have hmx : dMf d V tm s (m + 1) = max (dMf d V tm s m) (dBm d V m tm s) := by
            rw [dMf, if_pos ⟨lCan_of h1h hsup, hte⟩]
          have hnx : s + 1 ≤ (s + 1) ||| sNd d m := Nat.left_le_or
          have hn9 : (s + 1) ||| sNd d m < 2 ^ 9 := r_or_lt (by omega) (by have : sNd d m < 2 ^ d 0 := r_or_lt hm5.2.2.2.1 hm5.2.2.2.2.1; omega)
          refine Ru_weak (ih (2 ^ d 0 - ((s + 1) ||| sNd d m)) (by omega) ((s + 1) ||| sNd d m) _ rfl hn9 (sup_or _ _) (fun s' hs' => ?_) (fun i hi => ?_) (r_fx.sI rfl fx2)) rfl
          · rw [r_sI_g]
            by_cases es : s' = s
            · subst es
              rw [if_pos (show s' < (s' + 1) ||| sNd d m by omega), hmx]
              rw [if_pos ⟨rfl, rfl⟩]
              congr 1
              omega
            · rw [if_neg (by omega)]
              have h9 := ((gx2 56 _ rfl).1.trans (hrow s' hs'))
              rw [h9]
              by_cases l1 : s' < s
              · rw [if_pos l1, if_pos (by omega)]
              · rw [if_neg l1]
                split
                · rename_i l2
                  refine congrArg nI (dMf_no (fun z => ?_)).symm
                  have := sup_nx s' s (sNd d m) hsup (lCan_in z) (by omega)
                  omega
                · rfl
          · rw [r_sI_n (by omega)]
            exact ((gx2 56 _ rfl).1.trans (hout i hi))

theorem c_X0_beginAll {Q : Rq} {M : Mem} {t m tm : Nat} {d : Td} {V : Vt} (ht : isTown t) (hx : X_tm t d M) (wf : Wf d) (htw : M.2.2 55 0 = some t) (hm : m < d 1) (h1h : d (53 + m) = 1) (hte : tm + d (41 + m) ≤ 24) (hV0 : ∀ t' s', tm < t' → t' ≤ 24 → s' < 2 ^ d 0 → M.1 56 (t' * 256 + s') = nI (V t' s')) (hVb : ∀ t' s', V t' s' ≤ 100000000) (hrow0 : ∀ s', s' < 2 ^ d 0 → M.1 56 (tm * 256 + s') = nI (dMf d V tm s' m)) (k : ∀ M', r_fx [(61, 0), (61, 1), (61, 2)] [56] M M' → (∀ i, tm * 256 + 256 ≤ i → M'.1 56 i = M.1 56 i) → (∀ s', s' < 2 ^ d 0 → M'.1 56 (tm * 256 + s') = nI (dMf d V tm s' (m + 1))) → Q none GX M') : Ca 3 mt_X0_beginAll 0 0 [.ref 55, .int (nI m), .int (nI tm)] GX M Q := by
  refine Ca_of rfl (Nat.le_of_ble_eq_true rfl) ?_
  have hb := wf.1
  have hp := pw_le hb.1
  have hm5 := wf.2.2.2.2.1 m hm
  refine Ru_aload_n (pc := 0) dX0_beginAll_0 rfl rfl ?_
  refine Ru_getR (pc := 1) t dX0_beginAll_1 fl_X0_50 rfl rfl ((rfX_mut rfl rfl).trans htw) ?_
  refine Ru_iload_n (pc := 4) dX0_beginAll_4 rfl rfl ?_
  refine Ru_cv1 (pc := 5) dX0_beginAll_5 mv_X0_117 (shTown_0 ht) (by decide) (Nat.le_of_ble_eq_true rfl) (c_X9_needsS ht hx wf (by omega) ?_) 
  refine Ru_istore_n (pc := 8) dX0_beginAll_8 rfl rfl (by decide) ?_
  refine Ru_iload_n (pc := 9) dX0_beginAll_9 rfl rfl ?_
  refine Ru_aload_n (pc := 10) dX0_beginAll_10 rfl rfl ?_
  refine Ru_getR (pc := 11) t dX0_beginAll_11 fl_X0_50 rfl rfl ((rfX_mut rfl rfl).trans htw) ?_
  refine Ru_getR (pc := 14) (t + 6) dX0_beginAll_14 fl_X0_121 (shTown_0 ht) rfl (rfX_of (o := t) (j := 6) (shTown_0 ht) rfl) ?_
  refine Ru_iload_n (pc := 17) dX0_beginAll_17 rfl rfl ?_
  refine Ru_iald (pc := 18) dX0_beginAll_18 (shTown_6 ht) (by omega) ?_
  refine Ru_top (hx.2.2.1 m (by omega)).2.1 ?_
  refine Ru_iaddN (pc := 19) dX0_beginAll_19 ?_
  refine Ru_istore (pc := 20) dX0_beginAll_20 rfl (by decide) ?_
  refine Ru_aload_n (pc := 22) dX0_beginAll_22 rfl rfl ?_
  refine Ru_getR (pc := 23) t dX0_beginAll_23 fl_X0_50 rfl rfl ((rfX_mut rfl rfl).trans htw) ?_
  refine Ru_iload_n (pc := 26) dX0_beginAll_26 rfl rfl ?_
  refine Ru_iconst (pc := 27) (nI 1) dX0_beginAll_27 rfl ?_
  refine Ru_iaddN (pc := 28) dX0_beginAll_28 ?_
  refine Ru_iload (pc := 29) dX0_beginAll_29 rfl ?_
  refine Ru_cv2 (pc := 31) dX0_beginAll_31 mv_X0_124 (shTown_0 ht) (by decide) (Nat.le_of_ble_eq_true rfl) (c_X9_isAsked ht hx wf (by omega) ?_) 
  refine Ru_istore (pc := 34) dX0_beginAll_34 rfl (by decide) ?_
  refine Ru_iload_n (pc := 36) dX0_beginAll_36 rfl rfl ?_
  refine Ru_istore (pc := 37) dX0_beginAll_37 rfl (by decide) ?_
  refine Ru_weak (l_X0_beginAll (M0 := M) ht hx wf htw hm h1h hte hV0 hVb k (2 ^ d 0 - sNd d m) (sNd d m) M rfl (by have : sNd d m < 2 ^ d 0 := r_or_lt hm5.2.2.2.1 hm5.2.2.2.2.1; omega) ?_ (fun s' hs' => (hrow0 s' hs').trans ?_) (fun i hi => rfl) r_fx.rf) rfl
  · have := sup_or (sNd d m) (sNd d m)
    rwa [Nat.or_self] at this
  · split
    · rename_i l2
      refine congrArg nI (dMf_no (fun z => ?_)).symm
      have := sup_lt (lCan_in z)
      omega
    · rfl

theorem l_X0_serveAll {Q : Rq} {M0 : Mem} {t tm : Nat} {d : Td} {P : Nat → Nat} (ht : isTown t) (hx0 : X_tm t d M0) (wf : Wf d) (htw0 : M0.2.2 55 0 = some t) (htm : tm ≤ 24) (hPb : ∀ s, P s ≤ 200000000) (k : ∀ M', r_fx [(61, 0), (61, 1), (61, 2)] [56] M0 M' → (∀ i, tm * 256 + 256 ≤ i → M'.1 56 i = M0.1 56 i) → (∀ s', s' < 2 ^ d 0 → M'.1 56 (tm * 256 + s') = nI ((wT d tm s').2.1 + P (wT d tm s').1)) → Q none GX M') : ∀ (zw : Nat) (j : Nat) (M : Mem), j = zw → (j ≤ 2 ^ d 0) → (∀ s', s' < 2 ^ d 0 → M.1 56 (tm * 256 + s') = nI (if j ≤ s' then (wT d tm s').2.1 + P (wT d tm s').1 else P s')) → (∀ i, tm * 256 + 256 ≤ i → M.1 56 i = M0.1 56 i) → (r_fx [(61, 0), (61, 1), (61, 2)] [56] M0 M) → Ru 1 mt_X0_serveAll r_z 22 [(2, some (.int (r_b (decide ((ordH d tm).length < (ordH d (tm + 1)).length))))), (3, some (.int (nM j))), (0, some (.ref 55)), (1, some (.int (nI tm)))] [] GX M Q := by
  intro zw
  induction zw using Nat.strongRecOn with
  | ind zw ih =>
    intro j M hw hj hrow hout fx
    subst hw
    have hb := wf.1
    have hp := pw_le hb.1
    have hx : X_tm t d M := (X_tm_dp ht d).kp fx rfl hx0
    have htw : M.2.2 55 0 = some t := (fx 55 0 rfl).2.2.trans htw0
    have hz : (nM j).toInt = (j : Int) - 1 := nM_t (by omega)
    refine Ru_iload_n (pc := 22) dX0_serveAll_22 rfl rfl ?_
    refine Ru_if_ltT (pc := 23) 97 dX0_serveAll_23 (by decide) (fun h1 => ?_) (fun h1 => ?_)
    · refine Ru_vret (pc := 97) dX0_serveAll_97 rfl ⟨Nat.le_refl _, Nat.le_refl _⟩ ?_
      refine k _ fx hout (fun s' hs' => (hrow s' hs').trans ?_)
      rw [if_pos (by omega)]
    · obtain ⟨j', rfl⟩ : ∃ j', j = j' + 1 := ⟨j - 1, by omega⟩
      refine Ru_weak (L' := [(2, some (.int (r_b (decide ((ordH d tm).length < (ordH d (tm + 1)).length))))), (3, some (.int (nI j'))), (0, some (.ref 55)), (1, some (.int (nI tm)))]) ?_ rfl
      refine Ru_iload_n (pc := 26) dX0_serveAll_26 rfl rfl ?_
      refine Ru_if_eqB (pc := 27) 97 dX0_serveAll_27 (by decide) (fun h2 => ?_) (fun h2 => ?_)
      · replace h2 := of_decide_eq_false h2
        refine Ru_vret (pc := 97) dX0_serveAll_97 rfl ⟨Nat.le_refl _, Nat.le_refl _⟩ ?_
        refine k _ fx hout (fun s' hs' => (hrow s' hs').trans ?_)
        have hnn := ask_f (d := d) (f := tm) (n := 1) (by omega) 0 (by omega)
        have ew : wT d tm s' = (s', 0, 0) := by
          rw [wT_eq]
          exact wAtT_none hnn _
        rw [ew]
        split
        · rfl
        · rw [Nat.zero_add]
      · replace h2 := of_decide_eq_true h2
        refine Ru_aload_n (pc := 30) dX0_serveAll_30 rfl rfl ?_
        refine Ru_getR (pc := 31) 61 dX0_serveAll_31 fl_X0_30 rfl rfl (rfX_of (o := 55) (j := 6) rfl rfl) ?_
        refine Ru_iload_n (pc := 34) dX0_serveAll_34 rfl rfl ?_
        refine Ru_cv1 (pc := 35) dX0_serveAll_35 mv_X0_134 rfl (by decide) (Nat.le_of_ble_eq_true rfl) (c_X6_begin_61 (s := j') (fun M2 gx2 g0 g1 g2 => ?_)) 
        have hx2 : X_tm t d M2 := (X_tm_dp ht d).kp gx2 rfl hx
        have htw2 : M2.2.2 55 0 = some t := (gx2 55 0 rfl).2.2.trans htw
        refine Ru_aload_n (pc := 38) dX0_serveAll_38 rfl rfl ?_
        refine Ru_getR (pc := 39) 61 dX0_serveAll_39 fl_X0_30 rfl rfl (rfX_of (o := 55) (j := 6) rfl rfl) ?_
        refine Ru_aload_n (pc := 42) dX0_serveAll_42 rfl rfl ?_
        refine Ru_getR (pc := 43) t dX0_serveAll_43 fl_X0_50 rfl rfl ((rfX_mut rfl rfl).trans htw2) ?_
        refine Ru_iload_n (pc := 46) dX0_serveAll_46 rfl rfl ?_
        refine Ru_iload_n (pc := 47) dX0_serveAll_47 rfl rfl ?_
        refine Ru_iconst (pc := 48) (nI 1) dX0_serveAll_48 rfl ?_
        refine Ru_iaddN (pc := 49) dX0_serveAll_49 ?_
        refine Ru_cv3 (pc := 50) dX0_serveAll_50 mv_X0_137 rfl (by decide) (Nat.le_of_ble_eq_true rfl) (c_X6_serve_61 (f := tm) (n := 1) (j', 0, 0) ht hx2 wf (by omega) g0 g1 g2 (fun M3 gx3 hs03 hs13 hs23 => ?_)) 
        have eW : wR d (j', 0, 0) tm 1 = wT d tm j' := (wT_eq d tm j').symm
        rw [eW] at hs03 hs13 hs23
        have fx3 : r_fx [(61, 0), (61, 1), (61, 2)] [56] M0 M3 := fx.tr ((gx2.tr gx3).mono rfl)
        have hx3 : X_tm t d M3 := (X_tm_dp ht d).kp fx3 rfl hx0
        have htw3 : M3.2.2 55 0 = some t := (fx3 55 0 rfl).2.2.trans htw0
        have hle := wT_le d tm j'
        have hwb := (wT_b wf tm j').1
        have hPq := hPb (wT d tm j').1
        refine Ru_aload_n (pc := 53) dX0_serveAll_53 rfl rfl ?_
        refine Ru_getR (pc := 54) 56 dX0_serveAll_54 fl_X0_9 rfl rfl (rfX_of (o := 55) (j := 1) rfl rfl) ?_
        refine Ru_iload_n (pc := 57) dX0_serveAll_57 rfl rfl ?_
        refine Ru_sipush (pc := 58) (nI 256) dX0_serveAll_58 rfl ?_
        refine Ru_imulN (pc := 61) dX0_serveAll_61 ?_
        refine Ru_iload_n (pc := 62) dX0_serveAll_62 rfl rfl ?_
        refine Ru_iaddN (pc := 63) dX0_serveAll_63 ?_
        refine Ru_aload_n (pc := 64) dX0_serveAll_64 rfl rfl ?_
        refine Ru_getR (pc := 65) 61 dX0_serveAll_65 fl_X0_30 rfl rfl (rfX_of (o := 55) (j := 6) rfl rfl) ?_
        refine Ru_getI (pc := 68) dX0_serveAll_68 fl_X0_140 rfl rfl ?_
        refine Ru_top hs13 ?_
        refine Ru_aload_n (pc := 71) dX0_serveAll_71 rfl rfl ?_
        refine Ru_getR (pc := 72) 56 dX0_serveAll_72 fl_X0_9 rfl rfl (rfX_of (o := 55) (j := 1) rfl rfl) ?_
        refine Ru_iload_n (pc := 75) dX0_serveAll_75 rfl rfl ?_
        refine Ru_sipush (pc := 76) (nI 256) dX0_serveAll_76 rfl ?_
        refine Ru_imulN (pc := 79) dX0_serveAll_79 ?_
        refine Ru_aload_n (pc := 80) dX0_serveAll_80 rfl rfl ?_
        refine Ru_getR (pc := 81) 61 dX0_serveAll_81 fl_X0_30 rfl rfl (rfX_of (o := 55) (j := 6) rfl rfl) ?_
        refine Ru_getI (pc := 84) dX0_serveAll_84 fl_X0_143 rfl rfl ?_
        refine Ru_top hs03 ?_
        refine Ru_iaddN (pc := 87) dX0_serveAll_87 ?_
        refine Ru_iald (pc := 88) dX0_serveAll_88 rfl (by omega) ?_
        refine Ru_top ((gx3 56 _ rfl).1.trans ((gx2 56 _ rfl).1.trans ((hrow _ (by omega)).trans (by rw [if_neg (by omega)])))) ?_
        refine Ru_iaddN (pc := 89) dX0_serveAll_89 ?_
        refine Ru_iast (pc := 90) rfl dX0_serveAll_90 rfl (by omega) ?_
        refine Ru_iinc (pc := 91) _ dX0_serveAll_91 rfl rfl rfl (by decide) ?_
        refine Ru_goto (pc := 94) 22 dX0_serveAll_94 (by decide) ?_
        rw [nM_dec (by omega)]
        refine Ru_weak (ih j' (by omega) j' _ rfl (by omega) (fun s' hs' => ?_) (fun i hi => ?_) (r_fx.sI rfl fx3)) rfl
        · rw [r_sI_g]
          by_cases es : s' = j'
          · subst es
            rw [if_pos ⟨rfl, rfl⟩, if_pos (Nat.le_refl _)]
          · rw [if_neg (by omega)]
            refine ((gx3 56 _ rfl).1.trans ((gx2 56 _ rfl).1.trans (hrow s' hs'))).trans ?_
            by_cases l1 : j' + 1 ≤ s'
            · rw [if_pos l1, if_pos (by omega)]
            · rw [if_neg l1, if_neg (by omega)]
        · rw [r_sI_n (by omega)]
          exact (gx3 56 _ rfl).1.trans ((gx2 56 _ rfl).1.trans (hout i hi))

theorem c_X0_serveAll {Q : Rq} {M : Mem} {t tm : Nat} {d : Td} {P : Nat → Nat} (ht : isTown t) (hx : X_tm t d M) (wf : Wf d) (htw : M.2.2 55 0 = some t) (htm : tm ≤ 24) (hPb : ∀ s, P s ≤ 200000000) (hrow0 : ∀ s', s' < 2 ^ d 0 → M.1 56 (tm * 256 + s') = nI (P s')) (k : ∀ M', r_fx [(61, 0), (61, 1), (61, 2)] [56] M M' → (∀ i, tm * 256 + 256 ≤ i → M'.1 56 i = M.1 56 i) → (∀ s', s' < 2 ^ d 0 → M'.1 56 (tm * 256 + s') = nI ((wT d tm s').2.1 + P (wT d tm s').1)) → Q none GX M') : Ca 1 mt_X0_serveAll 0 0 [.ref 55, .int (nI tm)] GX M Q := by
  refine Ca_of rfl (Nat.le_of_ble_eq_true rfl) ?_
  have hb := wf.1
  have hp := pw_le hb.1
  refine Ru_aload_n (pc := 0) dX0_serveAll_0 rfl rfl ?_
  refine Ru_getR (pc := 1) t dX0_serveAll_1 fl_X0_50 rfl rfl ((rfX_mut rfl rfl).trans htw) ?_
  refine Ru_iload_n (pc := 4) dX0_serveAll_4 rfl rfl ?_
  refine Ru_iload_n (pc := 5) dX0_serveAll_5 rfl rfl ?_
  refine Ru_iconst (pc := 6) (nI 1) dX0_serveAll_6 rfl ?_
  refine Ru_iaddN (pc := 7) dX0_serveAll_7 ?_
  refine Ru_cv2 (pc := 8) dX0_serveAll_8 mv_X0_124 (shTown_0 ht) (by decide) (Nat.le_of_ble_eq_true rfl) (c_X9_isAsked ht hx wf (by omega) ?_) 
  refine Ru_istore_n (pc := 11) dX0_serveAll_11 rfl rfl (by decide) ?_
  refine Ru_aload_n (pc := 12) dX0_serveAll_12 rfl rfl ?_
  refine Ru_getR (pc := 13) t dX0_serveAll_13 fl_X0_50 rfl rfl ((rfX_mut rfl rfl).trans htw) ?_
  refine Ru_cv0 (pc := 16) dX0_serveAll_16 mv_X0_68 (shTown_0 ht) (by decide) (Nat.le_of_ble_eq_true rfl) (c_X9_sets ht hx wf ?_) 
  refine Ru_iconst (pc := 19) (nI 1) dX0_serveAll_19 rfl ?_
  refine Ru_isub (pc := 20) dX0_serveAll_20 ?_
  rw [nM_sub (by omega)]
  refine Ru_istore_n (pc := 21) dX0_serveAll_21 rfl rfl (by decide) ?_
  exact Ru_weak (l_X0_serveAll (M0 := M) ht hx wf htw htm hPb k (2 ^ d 0) (2 ^ d 0) M rfl (Nat.le_refl _) (fun s' hs' => (hrow0 s' hs').trans (by rw [if_neg (by omega)])) (fun i hi => rfl) r_fx.rf) rfl
