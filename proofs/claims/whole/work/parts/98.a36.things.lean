-- READING: the reference, the parts of a town
def Y_lo (M M' : Mem) : Prop := (∀ j, (j < 2600 ∨ 2739 ≤ j) → M'.1 5 j = M.1 5 j) ∧ ∀ j, j < 104 → M'.2.1 6 j = M.2.1 6 j
theorem wU_s {W : Nat → List Nat} {k : Nat} {l : List Nat} {j : Nat} (h : j = k) : wU W k l j = l := if_pos h
theorem wU_n {W : Nat → List Nat} {k : Nat} {l : List Nat} {j : Nat} (h : ¬ j = k) : wU W k l j = W j := if_neg h

theorem Y_w4_0 {x : St9} {M M' : Mem} {l : List Nat} {d : Td} (hw : Y_w4 x M) (hlt : x.1 0 < 8) (hl : Lv l ∧ l.length ≤ 8) (hk : ∀ j, ¬ j = 104 + x.1 0 → M'.2.1 6 j = M.2.1 6 j) (hv : M'.2.1 6 (104 + x.1 0) = nJ (cd 32 l)) (h0 : d 0 = x.1 0 + 1) (h1 : d 1 = x.1 1) (h2 : d 2 = x.1 2) (h3 : d 3 = x.1 3) : Y_w4 (d, wU x.2 (x.1 0) l) M' := by
  have hcb := hw.2.2.2
  refine ⟨fun k hk9 => ?_, fun k hk9 => ?_, fun k hk9 => ?_, ?_⟩
  · dsimp only
    change k < d 0 at hk9
    · rw [h0] at hk9
      by_cases e : k = x.1 0
      · subst e
        rw [show (wU x.2 (x.1 0) l) (0 + x.1 0) = l from wU_s (by omega)]
        exact ⟨hv, hl⟩
      · rw [show (wU x.2 (x.1 0) l) (0 + k) = x.2 (0 + k) from wU_n (by omega)]
        exact ⟨(hk _ (by omega)).trans (hw.1 k (by omega)).1, (hw.1 k (by omega)).2⟩
  · dsimp only
    change k < d 1 at hk9
    · rw [h1] at hk9
      rw [show (wU x.2 (x.1 0) l) (8 + k) = x.2 (8 + k) from wU_n (by omega)]
      exact ⟨(hk _ (by omega)).trans (hw.2.1 k hk9).1, (hw.2.1 k hk9).2⟩
  · dsimp only
    change k < d 2 at hk9
    · rw [h2] at hk9
      rw [show (wU x.2 (x.1 0) l) (20 + k) = x.2 (20 + k) from wU_n (by omega)]
      exact ⟨(hk _ (by omega)).trans (hw.2.2.1 k hk9).1, (hw.2.2.1 k hk9).2⟩
  · show d 0 ≤ 8 ∧ d 1 ≤ 12 ∧ d 2 ≤ 6 ∧ d 3 ≤ 8
    omega

theorem Y_w4_1 {x : St9} {M M' : Mem} {l : List Nat} {d : Td} (hw : Y_w4 x M) (hlt : x.1 1 < 12) (hl : Lv l ∧ l.length ≤ 8) (hk : ∀ j, ¬ j = 112 + x.1 1 → M'.2.1 6 j = M.2.1 6 j) (hv : M'.2.1 6 (112 + x.1 1) = nJ (cd 32 l)) (h0 : d 0 = x.1 0) (h1 : d 1 = x.1 1 + 1) (h2 : d 2 = x.1 2) (h3 : d 3 = x.1 3) : Y_w4 (d, wU x.2 (8 + x.1 1) l) M' := by
  have hcb := hw.2.2.2
  refine ⟨fun k hk9 => ?_, fun k hk9 => ?_, fun k hk9 => ?_, ?_⟩
  · dsimp only
    change k < d 0 at hk9
    · rw [h0] at hk9
      rw [show (wU x.2 (8 + x.1 1) l) (0 + k) = x.2 (0 + k) from wU_n (by omega)]
      exact ⟨(hk _ (by omega)).trans (hw.1 k hk9).1, (hw.1 k hk9).2⟩
  · dsimp only
    change k < d 1 at hk9
    · rw [h1] at hk9
      by_cases e : k = x.1 1
      · subst e
        rw [show (wU x.2 (8 + x.1 1) l) (8 + x.1 1) = l from wU_s (by omega)]
        exact ⟨hv, hl⟩
      · rw [show (wU x.2 (8 + x.1 1) l) (8 + k) = x.2 (8 + k) from wU_n (by omega)]
        exact ⟨(hk _ (by omega)).trans (hw.2.1 k (by omega)).1, (hw.2.1 k (by omega)).2⟩
  · dsimp only
    change k < d 2 at hk9
    · rw [h2] at hk9
      rw [show (wU x.2 (8 + x.1 1) l) (20 + k) = x.2 (20 + k) from wU_n (by omega)]
      exact ⟨(hk _ (by omega)).trans (hw.2.2.1 k hk9).1, (hw.2.2.1 k hk9).2⟩
  · show d 0 ≤ 8 ∧ d 1 ≤ 12 ∧ d 2 ≤ 6 ∧ d 3 ≤ 8
    omega

theorem Y_w4_2 {x : St9} {M M' : Mem} {l : List Nat} {d : Td} (hw : Y_w4 x M) (hlt : x.1 2 < 6) (hl : Lv l ∧ l.length ≤ 8) (hk : ∀ j, ¬ j = 124 + x.1 2 → M'.2.1 6 j = M.2.1 6 j) (hv : M'.2.1 6 (124 + x.1 2) = nJ (cd 32 l)) (h0 : d 0 = x.1 0) (h1 : d 1 = x.1 1) (h2 : d 2 = x.1 2 + 1) (h3 : d 3 = x.1 3) : Y_w4 (d, wU x.2 (20 + x.1 2) l) M' := by
  have hcb := hw.2.2.2
  refine ⟨fun k hk9 => ?_, fun k hk9 => ?_, fun k hk9 => ?_, ?_⟩
  · dsimp only
    change k < d 0 at hk9
    · rw [h0] at hk9
      rw [show (wU x.2 (20 + x.1 2) l) (0 + k) = x.2 (0 + k) from wU_n (by omega)]
      exact ⟨(hk _ (by omega)).trans (hw.1 k hk9).1, (hw.1 k hk9).2⟩
  · dsimp only
    change k < d 1 at hk9
    · rw [h1] at hk9
      rw [show (wU x.2 (20 + x.1 2) l) (8 + k) = x.2 (8 + k) from wU_n (by omega)]
      exact ⟨(hk _ (by omega)).trans (hw.2.1 k hk9).1, (hw.2.1 k hk9).2⟩
  · dsimp only
    change k < d 2 at hk9
    · rw [h2] at hk9
      by_cases e : k = x.1 2
      · subst e
        rw [show (wU x.2 (20 + x.1 2) l) (20 + x.1 2) = l from wU_s (by omega)]
        exact ⟨hv, hl⟩
      · rw [show (wU x.2 (20 + x.1 2) l) (20 + k) = x.2 (20 + k) from wU_n (by omega)]
        exact ⟨(hk _ (by omega)).trans (hw.2.2.1 k (by omega)).1, (hw.2.2.1 k (by omega)).2⟩
  · show d 0 ≤ 8 ∧ d 1 ≤ 12 ∧ d 2 ≤ 6 ∧ d 3 ≤ 8
    omega

theorem l_X12_readThings {Q : Rq} {M0 : Mem} {T : Tx} {x : St9} {had : Nat} {R : Nat × Ps} (tw : Tw T) (hhad : had < 256) (hb40 : Y_b4 x.1 M0) (hw40 : ∀ k, k < x.1 0 → M0.2.1 6 (104 + k) = nJ (cd 32 (x.2 (0 + k))) ∧ Lv (x.2 (0 + k)) ∧ (x.2 (0 + k)).length ≤ 8) (hx8 : x.1 0 ≤ 8) (k : ∀ M', r_fx [(0, 12), (0, 13), (0, 14), (0, 15), (0, 16), (0, 17), (0, 18), (0, 21)] [] M0 M' → Y_rd T R.2 M' → Q (some (.int (nI R.1))) GY M') : ∀ (zw : Nat) (j : Nat) (set : Nat) (M : Mem), 801 - j = zw → (set < 2 ^ x.1 0) → (j ≤ 800) → (Y_rd T (j, 0) M) → (sRw T x.2 0 (x.1 0) had 136 (801 - j) set (j, 0) = R) → (r_fx [(0, 12), (0, 13), (0, 14), (0, 15), (0, 16), (0, 17), (0, 18), (0, 21)] [] M0 M) → Ru 5 mt_X12_readThings r_z 8 [(0, some (.ref 0)), (1, some (.int (nI had))), (2, some (.int (nI set))), (3, some (.int (nI 1)))] [] GY M Q := by
  intro zw
  induction zw using Nat.strongRecOn with
  | ind zw ih =>
    intro j set M hw hset hj hr he fx
    subst hw
    have hp := pw_le hx8
    have hb0 := hr.2.2.2.2
    have hb4 : Y_b4 x.1 M := (Y_b4_dp x.1).kp fx rfl hb40
    have hw4 : ∀ k, k < x.1 0 → M.2.1 6 (104 + k) = nJ (cd 32 (x.2 (0 + k))) ∧ Lv (x.2 (0 + k)) ∧ (x.2 (0 + k)).length ≤ 8 := fun k hk => ⟨(fx 6 _ rfl).2.1.trans (hw40 k hk).1, (hw40 k hk).2⟩
    have hfl := fN_le x.2 (tL T j) 0 (x.1 0)
    refine Ru_iload_n (pc := 8) dX12_readThings_8 rfl rfl ?_
    refine Ru_if_eqN (pc := 9) 100 dX12_readThings_9 (by decide) (by omega) (fun h1 => ?_) (fun h1 => ?_)
    · exfalso
      omega
    · refine Ru_aload_n (pc := 12) dX12_readThings_12 rfl rfl ?_
      refine Ru_getI (pc := 13) dX12_readThings_13 fl_X12_251 rfl rfl ?_
      refine Ru_top (show _ = nI 0 from hr.2.2.1) ?_
      refine Ru_if_neN (pc := 16) 100 dX12_readThings_16 (by decide) (by omega) (fun h2 => ?_) (fun h2 => ?_)
      · exfalso
        omega
      · refine Ru_aload_n (pc := 19) dX12_readThings_19 rfl rfl ?_
        refine Ru_iconst (pc := 20) (nI 4) dX12_readThings_20 rfl ?_
        refine Ru_iconst (pc := 21) (nI 0) dX12_readThings_21 rfl ?_
        refine Ru_iconst (pc := 22) (nI 0) dX12_readThings_22 rfl ?_
        refine Ru_cv3 (pc := 23) dX12_readThings_23 mv_X12_287 rfl (by decide) (Nat.le_of_ble_eq_true rfl) (c_X12_readOld (s := (j, 0)) (W := x.2) (b := 4) (th := 0) (f := 0) (w0 := 0) (n := x.1 0) tw hr (by omega) (by decide) (by omega) (hb4 0 (by decide)) hw4 (fun M2 v2 gx2 hr2 hv2 => ?_)) 
        have fx2 : r_fx [(0, 12), (0, 13), (0, 14), (0, 15), (0, 16), (0, 17), (0, 18), (0, 21)] [] M M2 := gx2.mono rfl
        have hb2 := hr2.2.2.2.2
        have ht2 := tTok_b (tK T (sOld T x.2 0 (x.1 0) (j, 0)).1)
        have hb42 : Y_b4 x.1 M2 := (Y_b4_dp x.1).kp gx2 rfl hb4
        refine Ru_istore (pc := 26) dX12_readThings_26 rfl (by decide) ?_
        refine Ru_aload_n (pc := 28) dX12_readThings_28 rfl rfl ?_
        refine Ru_getI (pc := 29) dX12_readThings_29 fl_X12_251 rfl rfl ?_
        refine Ru_top hr2.2.2.1 ?_
        refine Ru_if_neN (pc := 32) 56 dX12_readThings_32 (by decide) (by omega) (fun h3 => ?_) (fun h3 => ?_)
        · refine Ru_aload_n (pc := 56) dX12_readThings_56 rfl rfl ?_
          refine Ru_getI (pc := 57) dX12_readThings_57 fl_X12_251 rfl rfl ?_
          refine Ru_top hr2.2.2.1 ?_
          refine Ru_if_leN (pc := 60) 65 dX12_readThings_60 (by decide) (by omega) (fun h4 => ?_) (fun h4 => ?_)
          · exfalso
            omega
          · refine Ru_iconst (pc := 63) (nI 0) dX12_readThings_63 rfl ?_
            refine Ru_iret (pc := 64) dX12_readThings_64 rfl ⟨Nat.le_refl _, Nat.le_refl _⟩ ?_
            have he2 : (0, sOld T x.2 0 (x.1 0) (j, 0)) = R := by
              rw [← he]
              by_cases h9 : j < 801
              · rw [show 801 - j = (801 - (j + 1)) + 1 by omega, sRw, if_pos (show ¬ (sOld T x.2 0 (x.1 0) (j, 0)).2 = 0 by assumption)]
              · exact absurd h9 (by omega)
            subst he2
            exact k M2 (fx.tr fx2) hr2
        · have hok := sOld_ok (show (sOld T x.2 0 (x.1 0) (j, 0)).2 = 0 by assumption)
          have hv9 : v2 = nI ((fN x.2 (tL T j) 0 (x.1 0)) - 1) := hv2 (by assumption)
          subst hv9
          have hr2 : Y_rd T (j, 0) M2 := by
            rw [hok.1] at hr2
            exact hr2
          have hK3 : tK T j = 3 := hok.2.2.1
          have hf0 : ¬ (fN x.2 (tL T j) 0 (x.1 0)) = 0 := hok.2.2.2
          have hj8 := (tK_i tw (i := j) (by omega)).1
          refine Ru_iload_n (pc := 35) dX12_readThings_35 rfl rfl ?_
          refine Ru_iload_n (pc := 36) dX12_readThings_36 rfl rfl ?_
          refine Ru_iorN (pc := 37) dX12_readThings_37 ?_
          refine Ru_iload (pc := 38) dX12_readThings_38 rfl ?_
          refine Ru_ishrN (pc := 40) dX12_readThings_40 ⟨Nat.or_lt_two_pow (n := 31) (by omega) (by omega), by omega⟩ ?_
          refine Ru_iconst (pc := 41) (nI 1) dX12_readThings_41 rfl ?_
          refine Ru_iandN (pc := 42) dX12_readThings_42 ?_
          refine Ru_iconst (pc := 43) (nI 1) dX12_readThings_43 rfl ?_
          refine Ru_icmp_neN (pc := 44) 56 dX12_readThings_44 (by decide) ⟨Nat.lt_of_le_of_lt Nat.and_le_right (by decide), by decide⟩ (fun h5 => ?_) (fun h5 => ?_)
          · have hbit : (set ||| had).testBit ((fN x.2 (tL T j) 0 (x.1 0)) - 1) = false := by
              apply r_b1_f
              have := Nat.and_le_right (n := (set ||| had) >>> ((fN x.2 (tL T j) 0 (x.1 0)) - 1)) (m := 1)
              omega
            refine Ru_aload_n (pc := 56) dX12_readThings_56 rfl rfl ?_
            refine Ru_getI (pc := 57) dX12_readThings_57 fl_X12_251 rfl rfl ?_
            refine Ru_top (show _ = nI 0 from hr2.2.2.1) ?_
            refine Ru_if_leN (pc := 60) 65 dX12_readThings_60 (by decide) (by omega) (fun h6 => ?_) (fun h6 => ?_)
            · refine Ru_iload_n (pc := 65) dX12_readThings_65 rfl rfl ?_
              refine Ru_iconst (pc := 66) (nI 1) dX12_readThings_66 rfl ?_
              refine Ru_iload (pc := 67) dX12_readThings_67 rfl ?_
              refine Ru_ishl1N (pc := 69) dX12_readThings_69 (by omega) ?_
              refine Ru_iorN (pc := 70) dX12_readThings_70 ?_
              refine Ru_istore_n (pc := 71) dX12_readThings_71 rfl rfl (by decide) ?_
              refine Ru_aload_n (pc := 72) dX12_readThings_72 rfl rfl ?_
              refine Ru_cv0 (pc := 73) dX12_readThings_73 mv_X12_261 rfl (by decide) (Nat.le_of_ble_eq_true rfl) (c_X12_nextS (s := (j, 0)) tw hr2 (by first | rfl | assumption | omega) (fun M3 gx3 (hr3 : Y_rd T (j + 1, 0) M3) => ?_)) 
              have fx3 : r_fx [(0, 12), (0, 13), (0, 14), (0, 15), (0, 16), (0, 17), (0, 18), (0, 21)] [] M M3 := fx2.tr (gx3.mono rfl)
              have hb3 := hr3.2.2.2.2
              have ht3 := tTok_b (tK T (j + 1))
              refine Ru_aload_n (pc := 76) dX12_readThings_76 rfl rfl ?_
              refine Ru_getI (pc := 77) dX12_readThings_77 fl_X12_138 rfl rfl ?_
              refine Ru_top (show _ = nI (tTok (tK T (j + 1))) from hr3.2.1.2.2.1) ?_
              refine Ru_iconst (pc := 80) (nI 1) dX12_readThings_80 rfl ?_
              refine Ru_icmp_neN (pc := 81) 95 dX12_readThings_81 (by decide) (by omega) (fun h7 => ?_) (fun h7 => ?_)
              · refine Ru_iconst (pc := 95) (nI 0) dX12_readThings_95 rfl ?_
                refine Ru_istore_n (pc := 96) dX12_readThings_96 rfl rfl (by decide) ?_
                refine Ru_goto (pc := 97) 8 dX12_readThings_97 (by decide) ?_
                have hwk : ¬ (isWk (tK T (j + 1)) = true ∧ ¬ tK T (j + 1) = 136) := by
                  rintro ⟨z1, z2⟩
                  have z3 := tTok_1.mpr (of_decide_eq_true z1)
                  first | exact absurd z3 (by assumption) | exact absurd (by assumption) z2
                rw [show 801 - j = (801 - (j + 1)) + 1 by omega, sRw, if_neg (fun z => z (show (sOld T x.2 0 (x.1 0) (j, 0)).2 = 0 by assumption)), if_neg (nb_f hbit), if_neg hwk] at he
                subst he
                refine Ru_iload_n (pc := 8) dX12_readThings_8 rfl rfl ?_
                refine Ru_if_eqN (pc := 9) 100 dX12_readThings_9 (by decide) (by omega) (fun h8 => ?_) (fun h8 => ?_)
                · refine Ru_iload_n (pc := 100) dX12_readThings_100 rfl rfl ?_
                  refine Ru_iret (pc := 101) dX12_readThings_101 rfl ⟨Nat.le_refl _, Nat.le_refl _⟩ ?_
                  exact k M3 (fx.tr fx3) hr3
                · exfalso
                  omega
              · refine Ru_aload_n (pc := 84) dX12_readThings_84 rfl rfl ?_
                refine Ru_cv0 (pc := 85) dX12_readThings_85 mv_X12_197 rfl (by decide) (Nat.le_of_ble_eq_true rfl) (c_X12_isWith (i := (j + 1)) tw hr3.2.1 ?_) 
                refine Ru_if_neB (pc := 88) 95 dX12_readThings_88 (by decide) (fun h9 => ?_) (fun h9 => ?_)
                · replace h9 := of_decide_eq_true h9
                  refine Ru_iconst (pc := 95) (nI 0) dX12_readThings_95 rfl ?_
                  refine Ru_istore_n (pc := 96) dX12_readThings_96 rfl rfl (by decide) ?_
                  refine Ru_goto (pc := 97) 8 dX12_readThings_97 (by decide) ?_
                  have hwk : ¬ (isWk (tK T (j + 1)) = true ∧ ¬ tK T (j + 1) = 136) := by
                    rintro ⟨z1, z2⟩
                    have z3 := tTok_1.mpr (of_decide_eq_true z1)
                    first | exact absurd z3 (by assumption) | exact absurd (by assumption) z2
                  rw [show 801 - j = (801 - (j + 1)) + 1 by omega, sRw, if_neg (fun z => z (show (sOld T x.2 0 (x.1 0) (j, 0)).2 = 0 by assumption)), if_neg (nb_f hbit), if_neg hwk] at he
                  subst he
                  refine Ru_iload_n (pc := 8) dX12_readThings_8 rfl rfl ?_
                  refine Ru_if_eqN (pc := 9) 100 dX12_readThings_9 (by decide) (by omega) (fun h10 => ?_) (fun h10 => ?_)
                  · refine Ru_iload_n (pc := 100) dX12_readThings_100 rfl rfl ?_
                    refine Ru_iret (pc := 101) dX12_readThings_101 rfl ⟨Nat.le_refl _, Nat.le_refl _⟩ ?_
                    exact k M3 (fx.tr fx3) hr3
                  · exfalso
                    omega
                · replace h9 := of_decide_eq_false h9
                  refine Ru_iconst (pc := 91) (nI 1) dX12_readThings_91 rfl ?_
                  refine Ru_goto (pc := 92) 96 dX12_readThings_92 (by decide) ?_
                  refine Ru_istore_n (pc := 96) dX12_readThings_96 rfl rfl (by decide) ?_
                  refine Ru_goto (pc := 97) 8 dX12_readThings_97 (by decide) ?_
                  have hwk : isWk (tK T (j + 1)) = true := decide_eq_true (tTok_1.mp (by assumption))
                  rw [show 801 - j = (801 - (j + 1)) + 1 by omega, sRw, if_neg (fun z => z (show (sOld T x.2 0 (x.1 0) (j, 0)).2 = 0 by assumption)), if_neg (nb_f hbit), if_pos ⟨hwk, by assumption⟩] at he
                  exact Ru_weak (ih (801 - (j + 1)) (by omega) (j + 1) (set ||| 2 ^ ((fN x.2 (tL T j) 0 (x.1 0)) - 1)) M3 rfl (Nat.or_lt_two_pow hset (Nat.pow_lt_pow_right (by decide) (by omega))) (by omega) hr3 he (fx.tr fx3)) rfl
            · exfalso
              omega
          · have hbit : (set ||| had).testBit ((fN x.2 (tL T j) 0 (x.1 0)) - 1) = true := by
              apply r_b1_t
              omega
            refine Ru_aload_n (pc := 47) dX12_readThings_47 rfl rfl ?_
            refine Ru_iconst (pc := 48) (nI 5) dX12_readThings_48 rfl ?_
            refine Ru_aload_n (pc := 49) dX12_readThings_49 rfl rfl ?_
            refine Ru_getI (pc := 50) dX12_readThings_50 fl_X12_132 rfl rfl ?_
            refine Ru_top (show _ = nI (tA T (j)) from hr2.2.1.1) ?_
            refine Ru_cv2 (pc := 53) dX12_readThings_53 mv_X12_257 rfl (by decide) (Nat.le_of_ble_eq_true rfl) (c_X12_fail (f := 5) (s := (j, 0)) tw hr2 (by decide) (fun M3 gx3 hr3 => ?_)) 
            have fx3 : r_fx [(0, 12), (0, 13), (0, 14), (0, 15), (0, 16), (0, 17), (0, 18), (0, 21)] [] M M3 := fx2.tr (gx3.mono rfl)
            have hb3 := hr3.2.2.2.2
            have ht3 := tTok_b (tK T (sFail 5 (j, 0)).1)
            have hn3 := sFail_n (f := 5) (by decide) (show (j, 0).2 = 0 from rfl)
            refine Ru_aload_n (pc := 56) dX12_readThings_56 rfl rfl ?_
            refine Ru_getI (pc := 57) dX12_readThings_57 fl_X12_251 rfl rfl ?_
            refine Ru_top hr3.2.2.1 ?_
            refine Ru_if_leN (pc := 60) 65 dX12_readThings_60 (by decide) (by omega) (fun h11 => ?_) (fun h11 => ?_)
            · exfalso
              omega
            · refine Ru_iconst (pc := 63) (nI 0) dX12_readThings_63 rfl ?_
              refine Ru_iret (pc := 64) dX12_readThings_64 rfl ⟨Nat.le_refl _, Nat.le_refl _⟩ ?_
              rw [show 801 - j = (801 - (j + 1)) + 1 by omega, sRw, if_neg (fun z => z (show (sOld T x.2 0 (x.1 0) (j, 0)).2 = 0 by assumption)), if_pos hbit] at he
              subst he
              exact k M3 (fx.tr fx3) (by rw [show sFail 5 (j, 0) = (j, 5) from rfl] at hr3; exact hr3)
