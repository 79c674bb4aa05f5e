-- READING: the reference, a thing, a making, a person, a want
theorem sRw_lt {T : Tx} {W : Nat → List Nat} {b n had e : Nat} : ∀ (f set : Nat) (s : Ps), set < 2 ^ n → (sRw T W b n had e f set s).1 < 2 ^ n
  | 0, set, s, h => h
  | f + 1, set, s, h => by
    have hp := Nat.two_pow_pos n
    rw [sRw]
    split
    · exact hp
    · rename_i h1
      have hok := sOld_ok (Classical.byContradiction h1)
      have hfl := fN_le W (tL T s.1) b n
      have h2 : set ||| 2 ^ (fN W (tL T s.1) b n - 1) < 2 ^ n := Nat.or_lt_two_pow h (Nat.pow_lt_pow_right (by decide) (by have := hok.2.2.2; omega))
      split
      · exact hp
      · split
        · exact sRw_lt f _ _ h2
        · exact h2
theorem sOpt_lt {T : Tx} {W : Nat → List Nat} {n had w : Nat} {s : Ps} : (sOpt T W n had w s).1 < 2 ^ n := by
  unfold sOpt
  split
  · exact sRw_lt _ _ _ (Nat.two_pow_pos n)
  · exact Nat.two_pow_pos n
theorem sIf_t {T : Tx} {w : Nat} {s : Ps} (h : s.2 = 0) (hk : tK T s.1 = w) : sIf T w s = (s.1 + 1, 0) := if_pos ⟨h, hk⟩
theorem sIf_n {T : Tx} {w : Nat} {s : Ps} (hk : ¬ tK T s.1 = w) : sIf T w s = s := if_neg (fun z => hk z.2)
theorem bIf_t {T : Tx} {w : Nat} {s : Ps} (h : s.2 = 0) (hk : tK T s.1 = w) : bIf T w s = 1 := if_pos ⟨h, hk⟩
theorem bIf_n {T : Tx} {w : Nat} {s : Ps} (hk : ¬ tK T s.1 = w) : bIf T w s = 0 := if_neg (fun z => hk z.2)

theorem c_X12_readThings {Q : Rq} {M : Mem} {T : Tx} {s : Ps} (tw : Tw T) (hr : Y_rd T s M) {x : St9} (hb4 : Y_b4 x.1 M) (hwt : ∀ k, k < x.1 0 → M.2.1 6 (104 + k) = nJ (cd 32 (x.2 (0 + k))) ∧ Lv (x.2 (0 + k)) ∧ (x.2 (0 + k)).length ≤ 8) (hx8 : x.1 0 ≤ 8) {had : Nat} (hhad : had < 256) (h0 : s.2 = 0) (hK : ¬ tK T s.1 = 0) (k : ∀ M', r_fx [(0, 12), (0, 13), (0, 14), (0, 15), (0, 16), (0, 17), (0, 18), (0, 21)] [] M M' → Y_rd T (sRw T x.2 0 (x.1 0) had 136 (801 - (s.1 + 1)) 0 (s.1 + 1, 0)).2 M' → Q (some (.int (nI (sRw T x.2 0 (x.1 0) had 136 (801 - (s.1 + 1)) 0 (s.1 + 1, 0)).1))) GY M') : Ca 5 mt_X12_readThings 0 0 [.ref 0, .int (nI had)] GY M Q := by
  refine Ca_of rfl (Nat.le_of_ble_eq_true rfl) ?_
  refine Ru_aload_n (pc := 0) dX12_readThings_0 rfl rfl ?_
  refine Ru_cv0 (pc := 1) dX12_readThings_1 mv_X12_261 rfl (by decide) (Nat.le_of_ble_eq_true rfl) (c_X12_nextS (s := s) tw hr h0 (fun M2 gx2 (hr2 : Y_rd T (s.1 + 1, 0) M2) => ?_)) 
  have fx2 : r_fx [(0, 12), (0, 13), (0, 14), (0, 15), (0, 16), (0, 17), (0, 18), (0, 21)] [] M M2 := gx2.mono rfl
  have hb2 := hr2.2.2.2.2
  have ht2 := tTok_b (tK T (s.1 + 1))
  have hb42 : Y_b4 x.1 M2 := (Y_b4_dp x.1).kp gx2 rfl hb4
  have hwt2 : ∀ k, k < x.1 0 → M2.2.1 6 (104 + k) = nJ (cd 32 (x.2 (0 + k))) ∧ Lv (x.2 (0 + k)) ∧ (x.2 (0 + k)).length ≤ 8 := fun k hk => ⟨(gx2 6 _ rfl).2.1.trans (hwt k hk).1, (hwt k hk).2⟩
  refine Ru_iconst (pc := 4) (nI 0) dX12_readThings_4 rfl ?_
  refine Ru_istore_n (pc := 5) dX12_readThings_5 rfl rfl (by decide) ?_
  refine Ru_iconst (pc := 6) (nI 1) dX12_readThings_6 rfl ?_
  refine Ru_istore_n (pc := 7) dX12_readThings_7 rfl rfl (by decide) ?_
  have hj8 := (tK_i tw (i := s.1) hK).1
  refine Ru_weak (l_X12_readThings (R := (sRw T x.2 0 (x.1 0) had 136 (801 - (s.1 + 1)) 0 (s.1 + 1, 0))) tw hhad hb42 hwt2 hx8 (fun M' gx' hr' => k M' (fx2.tr gx') hr') (801 - (s.1 + 1)) (s.1 + 1) 0 M2 rfl (Nat.two_pow_pos _) (by omega) hr2 rfl r_fx.rf) rfl

theorem Y_w4_3 {x : St9} {M M' : Mem} {d : Td} (hw : Y_w4 x M) (hk : ∀ q, ¬ q = 999 → M'.2.1 6 q = M.2.1 6 q) (h0 : d 0 = x.1 0) (h1 : d 1 = x.1 1) (h2 : d 2 = x.1 2) (h3 : d 3 ≤ 8) : Y_w4 (d, x.2) M' := by
  have hcb := hw.2.2.2
  refine ⟨fun k q => ?_, fun k q => ?_, fun k q => ?_, ?_⟩
  · change k < d 0 at q
    rw [h0] at q
    exact ⟨(hk _ (by omega)).trans (hw.1 k q).1, (hw.1 k q).2⟩
  · change k < d 1 at q
    rw [h1] at q
    exact ⟨(hk _ (by omega)).trans (hw.2.1 k q).1, (hw.2.1 k q).2⟩
  · change k < d 2 at q
    rw [h2] at q
    exact ⟨(hk _ (by omega)).trans (hw.2.2.1 k q).1, (hw.2.2.1 k q).2⟩
  · show d 0 ≤ 8 ∧ d 1 ≤ 12 ∧ d 2 ≤ 6 ∧ d 3 ≤ 8
    omega
def Y_wt (x : St9) (M : Mem) : Prop := ∀ k, k < x.1 0 → M.2.1 6 (104 + k) = nJ (cd 32 (x.2 (0 + k))) ∧ Lv (x.2 (0 + k)) ∧ (x.2 (0 + k)).length ≤ 8

theorem c_X12_readThing {Q : Rq} {M : Mem} {T : Tx} {s : Ps} (tw : Tw T) (hr : Y_rd T s M) {x : St9} (hb4 : Y_b4 x.1 M) (hw4 : Y_w4 x M) (k : ∀ M', r_fx [(0, 12), (0, 13), (0, 14), (0, 15), (0, 16), (0, 17), (0, 18), (0, 21)] [5, 6] M M' → Y_lo M M' → Y_rd T (thS T x s) M' → ((thS T x s).2 = 0 → Y_b4 (thX T x s).1 M' ∧ Y_w4 (thX T x s) M') → Q none GY M') : Ca 6 mt_X12_readThing 0 0 [.ref 0] GY M Q := by
  refine Ca_of rfl (Nat.le_of_ble_eq_true rfl) ?_
  have hb0 := hr.2.2.2.2
  have ht0 := tTok_b (tK T s.1)
  have hcb := hw4.2.2.2
  refine Ru_aload_n (pc := 0) dX12_readThing_0 rfl rfl ?_
  refine Ru_iconst (pc := 1) (nI 0) dX12_readThing_1 rfl ?_
  refine Ru_bipush (pc := 2) (nI 8) dX12_readThing_2 rfl ?_
  refine Ru_iconst (pc := 4) (nI 0) dX12_readThing_4 rfl ?_
  refine Ru_cv3 (pc := 5) dX12_readThing_5 mv_X12_284 rfl (by decide) (Nat.le_of_ble_eq_true rfl) (c_X12_readNew_0 (s := s) (x := x) tw hr hb4 hw4 (fun M2 v2 gx2 hwk2 hr2 hv2 => ?_)) 
  have fx2 : r_fx [(0, 12), (0, 13), (0, 14), (0, 15), (0, 16), (0, 17), (0, 18), (0, 21)] [5, 6] M M2 := gx2.mono rfl
  have hb2 := hr2.2.2.2.2
  have ht2 := tTok_b (tK T (sNew T 0 8 x s).1)
  have hb42 : Y_b4 x.1 M2 := (Y_b4_dp x.1).kp gx2 rfl hb4
  have hnw2 : M2.2.1 6 (104 + 0 + x.1 0) = M2.2.1 6 (104 + 0 + x.1 0) := rfl
  have hc52 : ∀ q, M2.1 5 q = M.1 5 q := fun q => (gx2 5 q rfl).1
  refine Ru_istore_n (pc := 8) dX12_readThing_8 rfl rfl (by decide) ?_
  refine Ru_aload_n (pc := 9) dX12_readThing_9 rfl rfl ?_
  refine Ru_getI (pc := 10) dX12_readThing_10 fl_X12_251 rfl rfl ?_
  refine Ru_top hr2.2.2.1 ?_
  refine Ru_if_neN (pc := 13) 27 dX12_readThing_13 (by decide) (by omega) (fun h1 => ?_) (fun h1 => ?_)
  · refine Ru_iconst (pc := 27) (nI 0) dX12_readThing_27 rfl ?_
    refine Ru_istore_n (pc := 28) dX12_readThing_28 rfl rfl (by decide) ?_
    refine Ru_iload_n (pc := 29) dX12_readThing_29 rfl rfl ?_
    refine Ru_if_eqN (pc := 30) 37 dX12_readThing_30 (by decide) (by omega) (fun h2 => ?_) (fun h2 => ?_)
    · refine Ru_aload_n (pc := 37) dX12_readThing_37 rfl rfl ?_
      refine Ru_getI (pc := 38) dX12_readThing_38 fl_X12_251 rfl rfl ?_
      refine Ru_top hr2.2.2.1 ?_
      refine Ru_if_neN (pc := 41) 55 dX12_readThing_41 (by decide) (by omega) (fun h3 => ?_) (fun h3 => ?_)
      · refine Ru_iconst (pc := 55) (nI 0) dX12_readThing_55 rfl ?_
        refine Ru_istore_n (pc := 56) dX12_readThing_56 rfl rfl (by decide) ?_
        refine Ru_iload_n (pc := 57) dX12_readThing_57 rfl rfl ?_
        refine Ru_if_eqN (pc := 58) 65 dX12_readThing_58 (by decide) (by omega) (fun h4 => ?_) (fun h4 => ?_)
        · refine Ru_aload_n (pc := 65) dX12_readThing_65 rfl rfl ?_
          refine Ru_getI (pc := 66) dX12_readThing_66 fl_X12_251 rfl rfl ?_
          refine Ru_top hr2.2.2.1 ?_
          refine Ru_if_leN (pc := 69) 73 dX12_readThing_69 (by decide) (by omega) (fun h5 => ?_) (fun h5 => ?_)
          · exfalso
            omega
          · refine Ru_vret (pc := 72) dX12_readThing_72 rfl ⟨Nat.le_refl _, Nat.le_refl _⟩ ?_
            have hnz : ¬ (sNew T 0 8 x s).2 = 0 := by omega
            have eS : thS T x s = (sNew T 0 8 x s) := by
              unfold thS
              rw [sIf_f hnz, sIf_f hnz]
            refine k M2 (fx2.mono rfl) ⟨fun j _ => hc52 j, fun j hj => hwk2 j (by omega)⟩ (by rw [eS]; exact hr2) (fun z => ?_)
            exfalso
            rw [eS] at z
            first | exact absurd z (by assumption) | omega
        · exfalso
          omega
      · exfalso
        omega
    · exfalso
      omega
  · refine Ru_aload_n (pc := 16) dX12_readThing_16 rfl rfl ?_
    refine Ru_cv0 (pc := 17) dX12_readThing_17 mv_X12_175 rfl (by decide) (Nat.le_of_ble_eq_true rfl) (c_X12_isWear (i := (sNew T 0 8 x s).1) tw hr2.2.1 ?_) 
    refine Ru_if_eqB (pc := 20) 27 dX12_readThing_20 (by decide) (fun h6 => ?_) (fun h6 => ?_)
    · replace h6 := of_decide_eq_false h6
      refine Ru_iconst (pc := 27) (nI 0) dX12_readThing_27 rfl ?_
      refine Ru_istore_n (pc := 28) dX12_readThing_28 rfl rfl (by decide) ?_
      refine Ru_iload_n (pc := 29) dX12_readThing_29 rfl rfl ?_
      refine Ru_if_eqN (pc := 30) 37 dX12_readThing_30 (by decide) (by omega) (fun h7 => ?_) (fun h7 => ?_)
      · refine Ru_aload_n (pc := 37) dX12_readThing_37 rfl rfl ?_
        refine Ru_getI (pc := 38) dX12_readThing_38 fl_X12_251 rfl rfl ?_
        refine Ru_top hr2.2.2.1 ?_
        refine Ru_if_neN (pc := 41) 55 dX12_readThing_41 (by decide) (by omega) (fun h8 => ?_) (fun h8 => ?_)
        · exfalso
          omega
        · refine Ru_aload_n (pc := 44) dX12_readThing_44 rfl rfl ?_
          refine Ru_cv0 (pc := 45) dX12_readThing_45 mv_X12_179 rfl (by decide) (Nat.le_of_ble_eq_true rfl) (c_X12_isSend (i := (sNew T 0 8 x s).1) tw hr2.2.1 ?_) 
          refine Ru_if_eqB (pc := 48) 55 dX12_readThing_48 (by decide) (fun h9 => ?_) (fun h9 => ?_)
          · replace h9 := of_decide_eq_false h9
            refine Ru_iconst (pc := 55) (nI 0) dX12_readThing_55 rfl ?_
            refine Ru_istore_n (pc := 56) dX12_readThing_56 rfl rfl (by decide) ?_
            refine Ru_iload_n (pc := 57) dX12_readThing_57 rfl rfl ?_
            refine Ru_if_eqN (pc := 58) 65 dX12_readThing_58 (by decide) (by omega) (fun h10 => ?_) (fun h10 => ?_)
            · refine Ru_aload_n (pc := 65) dX12_readThing_65 rfl rfl ?_
              refine Ru_getI (pc := 66) dX12_readThing_66 fl_X12_251 rfl rfl ?_
              refine Ru_top hr2.2.2.1 ?_
              refine Ru_if_leN (pc := 69) 73 dX12_readThing_69 (by decide) (by omega) (fun h11 => ?_) (fun h11 => ?_)
              · have ev := (hv2 (by assumption)).1
                subst ev
                refine Ru_aload_n (pc := 73) dX12_readThing_73 rfl rfl ?_
                refine Ru_getR (pc := 74) 5 dX12_readThing_74 fl_X12_35 rfl rfl rfl ?_
                refine Ru_sipush (pc := 77) (nI 2605) dX12_readThing_77 rfl ?_
                refine Ru_iload_n (pc := 80) dX12_readThing_80 rfl rfl ?_
                refine Ru_iaddN (pc := 81) dX12_readThing_81 ?_
                refine Ru_iload_n (pc := 82) dX12_readThing_82 rfl rfl ?_
                refine Ru_if_eqN (pc := 83) 90 dX12_readThing_83 (by decide) (by omega) (fun h12 => ?_) (fun h12 => ?_)
                · refine Ru_iconst (pc := 90) (nI 0) dX12_readThing_90 rfl ?_
                  refine Ru_iast (pc := 91) rfl dX12_readThing_91 rfl (by omega) ?_
                  refine Ru_aload_n (pc := 92) dX12_readThing_92 rfl rfl ?_
                  refine Ru_getR (pc := 93) 5 dX12_readThing_93 fl_X12_35 rfl rfl rfl ?_
                  refine Ru_sipush (pc := 96) (nI 2613) dX12_readThing_96 rfl ?_
                  refine Ru_iload_n (pc := 99) dX12_readThing_99 rfl rfl ?_
                  refine Ru_iaddN (pc := 100) dX12_readThing_100 ?_
                  refine Ru_iload_n (pc := 101) dX12_readThing_101 rfl rfl ?_
                  refine Ru_if_eqN (pc := 102) 109 dX12_readThing_102 (by decide) (by omega) (fun h13 => ?_) (fun h13 => ?_)
                  · refine Ru_iconst (pc := 109) (nI 0) dX12_readThing_109 rfl ?_
                    refine Ru_iast (pc := 110) rfl dX12_readThing_110 rfl (by omega) ?_
                    refine Ru_aload_n (pc := 111) dX12_readThing_111 rfl rfl ?_
                    refine Ru_getR (pc := 112) 5 dX12_readThing_112 fl_X12_35 rfl rfl rfl ?_
                    refine Ru_sipush (pc := 115) (nI 2621) dX12_readThing_115 rfl ?_
                    refine Ru_iload_n (pc := 118) dX12_readThing_118 rfl rfl ?_
                    refine Ru_iaddN (pc := 119) dX12_readThing_119 ?_
                    refine Ru_iconst (pc := 120) (nI 0) dX12_readThing_120 rfl ?_
                    refine Ru_iast (pc := 121) rfl dX12_readThing_121 rfl (by omega) ?_
                    refine Ru_aload_n (pc := 122) dX12_readThing_122 rfl rfl ?_
                    refine Ru_getR (pc := 123) 5 dX12_readThing_123 fl_X12_35 rfl rfl rfl ?_
                    refine Ru_sipush (pc := 126) (nI 2600) dX12_readThing_126 rfl ?_
                    refine Ru_dup2 (pc := 129) dX12_readThing_129 rfl rfl ?_
                    refine Ru_iald (pc := 130) dX12_readThing_130 rfl (by omega) ?_
                    refine Ru_top ((r_sI_n (by omega)).trans ((r_sI_n (by omega)).trans ((r_sI_n (by omega)).trans (hb42 0 (by decide))))) ?_
                    refine Ru_iconst (pc := 131) (nI 1) dX12_readThing_131 rfl ?_
                    refine Ru_iaddN (pc := 132) dX12_readThing_132 ?_
                    refine Ru_iast (pc := 133) rfl dX12_readThing_133 rfl (by omega) ?_
                    refine Ru_vret (pc := 134) dX12_readThing_134 rfl ⟨Nat.le_refl _, Nat.le_refl _⟩ ?_
                    have hN0 : (sNew T 0 8 x s).2 = 0 := by assumption
                    have hok := sNew_ok hN0
                    have hLv := tL_v tw (Or.inl hok.2.2.1)
                    have e1 : sIf T 129 (sNew T 0 8 x s) = (sNew T 0 8 x s) := sIf_n (by assumption)
                    have e2 : sIf T 130 (sNew T 0 8 x s) = (sNew T 0 8 x s) := sIf_n (by assumption)
                    have eS : thS T x s = (sNew T 0 8 x s) := by
                      unfold thS
                      rw [e1, e2]
                    have b1 : bIf T 129 (sNew T 0 8 x s) = 0 := bIf_n (by assumption)
                    have b2 : bIf T 130 (sIf T 129 (sNew T 0 8 x s)) = 0 := by
                      rw [e1]
                      exact bIf_n (by assumption)
                    refine k _ (r_fx.sI rfl (r_fx.sI rfl (r_fx.sI rfl (r_fx.sI rfl fx2)))) ⟨fun j hj => ?_, fun j hj => ?_⟩ ?_ (fun _ => ⟨?_, ?_⟩)
                    · refine (r_sI_n (by omega)).trans ?_
                      refine (r_sI_n (by omega)).trans ?_
                      refine (r_sI_n (by omega)).trans ?_
                      refine (r_sI_n (by omega)).trans ?_
                      exact hc52 j
                    · exact hwk2 j (by omega)
                    · rw [eS]
                      exact (Y_rd_dp T (sNew T 0 8 x s)).kp (F := []) (A := [5]) (r_fx.sI rfl (r_fx.sI rfl (r_fx.sI rfl (r_fx.sI rfl r_fx.rf)))) rfl hr2
                    · intro j hj
                      unfold thX
                      dsimp only
                      by_cases a0 : j = 0
                      · rw [if_pos a0]
                        rw [r_sI_g, if_pos (by omega)]
                        try rfl
                      · rw [if_neg a0]
                        by_cases a1 : j = 5 + x.1 0
                        · rw [if_pos a1]
                          refine (r_sI_n (by omega)).trans ?_
                          refine (r_sI_n (by omega)).trans ?_
                          refine (r_sI_n (by omega)).trans ?_
                          rw [r_sI_g, if_pos (by omega)]
                          rw [b1]
                        · rw [if_neg a1]
                          by_cases a2 : j = 13 + x.1 0
                          · rw [if_pos a2]
                            refine (r_sI_n (by omega)).trans ?_
                            refine (r_sI_n (by omega)).trans ?_
                            rw [r_sI_g, if_pos (by omega)]
                            rw [b2]
                          · rw [if_neg a2]
                            by_cases a3 : j = 21 + x.1 0
                            · rw [if_pos a3]
                              refine (r_sI_n (by omega)).trans ?_
                              rw [r_sI_g, if_pos (by omega)]
                              try rfl
                            · rw [if_neg a3]
                              refine (r_sI_n (by omega)).trans ?_
                              refine (r_sI_n (by omega)).trans ?_
                              refine (r_sI_n (by omega)).trans ?_
                              refine (r_sI_n (by omega)).trans ?_
                              exact hb42 j hj
                    · exact Y_w4_0 hw4 (by have := hok.2.1; omega) ⟨hLv.1, hLv.2.1⟩ (fun q hq => hwk2 q hq) (hnw2.trans (hv2 hN0).2) (if_pos rfl) ((if_neg (by omega)).trans ((if_neg (by omega)).trans ((if_neg (by omega)).trans ((if_neg (by omega)).trans (rfl))))) ((if_neg (by omega)).trans ((if_neg (by omega)).trans ((if_neg (by omega)).trans ((if_neg (by omega)).trans (rfl))))) ((if_neg (by omega)).trans ((if_neg (by omega)).trans ((if_neg (by omega)).trans ((if_neg (by omega)).trans (rfl)))))
                  · exfalso
                    omega
                · exfalso
                  omega
              · exfalso
                omega
            · exfalso
              omega
          · replace h9 := of_decide_eq_true h9
            refine Ru_iconst (pc := 51) (nI 1) dX12_readThing_51 rfl ?_
            refine Ru_goto (pc := 52) 56 dX12_readThing_52 (by decide) ?_
            refine Ru_istore_n (pc := 56) dX12_readThing_56 rfl rfl (by decide) ?_
            refine Ru_iload_n (pc := 57) dX12_readThing_57 rfl rfl ?_
            refine Ru_if_eqN (pc := 58) 65 dX12_readThing_58 (by decide) (by omega) (fun h14 => ?_) (fun h14 => ?_)
            · exfalso
              omega
            · refine Ru_aload_n (pc := 61) dX12_readThing_61 rfl rfl ?_
              refine Ru_cv0 (pc := 62) dX12_readThing_62 mv_X12_261 rfl (by decide) (Nat.le_of_ble_eq_true rfl) (c_X12_nextS (s := (sNew T 0 8 x s)) tw hr2 (by first | rfl | assumption | omega) (fun M3 gx3 (hr3 : Y_rd T ((sNew T 0 8 x s).1 + 1, 0) M3) => ?_)) 
              have fx3 : r_fx [(0, 12), (0, 13), (0, 14), (0, 15), (0, 16), (0, 17), (0, 18), (0, 21)] [5, 6] M M3 := fx2.tr (gx3.mono rfl)
              have hb3 := hr3.2.2.2.2
              have ht3 := tTok_b (tK T ((sNew T 0 8 x s).1 + 1))
              have hb43 : Y_b4 x.1 M3 := (Y_b4_dp x.1).kp gx3 rfl hb42
              have hwk3 : ∀ q, ¬ q = 104 + 0 + x.1 0 → M3.2.1 6 q = M.2.1 6 q := fun q hq => (gx3 6 q rfl).2.1.trans (hwk2 q hq)
              have hnw3 : M3.2.1 6 (104 + 0 + x.1 0) = M2.2.1 6 (104 + 0 + x.1 0) := (gx3 6 _ rfl).2.1.trans hnw2
              have hc53 : ∀ q, M3.1 5 q = M.1 5 q := fun q => (gx3 5 q rfl).1.trans (hc52 q)
              refine Ru_aload_n (pc := 65) dX12_readThing_65 rfl rfl ?_
              refine Ru_getI (pc := 66) dX12_readThing_66 fl_X12_251 rfl rfl ?_
              refine Ru_top (show _ = nI 0 from hr3.2.2.1) ?_
              refine Ru_if_leN (pc := 69) 73 dX12_readThing_69 (by decide) (by omega) (fun h15 => ?_) (fun h15 => ?_)
              · have ev := (hv2 (by assumption)).1
                subst ev
                refine Ru_aload_n (pc := 73) dX12_readThing_73 rfl rfl ?_
                refine Ru_getR (pc := 74) 5 dX12_readThing_74 fl_X12_35 rfl rfl rfl ?_
                refine Ru_sipush (pc := 77) (nI 2605) dX12_readThing_77 rfl ?_
                refine Ru_iload_n (pc := 80) dX12_readThing_80 rfl rfl ?_
                refine Ru_iaddN (pc := 81) dX12_readThing_81 ?_
                refine Ru_iload_n (pc := 82) dX12_readThing_82 rfl rfl ?_
                refine Ru_if_eqN (pc := 83) 90 dX12_readThing_83 (by decide) (by omega) (fun h16 => ?_) (fun h16 => ?_)
                · refine Ru_iconst (pc := 90) (nI 0) dX12_readThing_90 rfl ?_
                  refine Ru_iast (pc := 91) rfl dX12_readThing_91 rfl (by omega) ?_
                  refine Ru_aload_n (pc := 92) dX12_readThing_92 rfl rfl ?_
                  refine Ru_getR (pc := 93) 5 dX12_readThing_93 fl_X12_35 rfl rfl rfl ?_
                  refine Ru_sipush (pc := 96) (nI 2613) dX12_readThing_96 rfl ?_
                  refine Ru_iload_n (pc := 99) dX12_readThing_99 rfl rfl ?_
                  refine Ru_iaddN (pc := 100) dX12_readThing_100 ?_
                  refine Ru_iload_n (pc := 101) dX12_readThing_101 rfl rfl ?_
                  refine Ru_if_eqN (pc := 102) 109 dX12_readThing_102 (by decide) (by omega) (fun h17 => ?_) (fun h17 => ?_)
                  · exfalso
                    omega
                  · refine Ru_iconst (pc := 105) (nI 1) dX12_readThing_105 rfl ?_
                    refine Ru_goto (pc := 106) 110 dX12_readThing_106 (by decide) ?_
                    refine Ru_iast (pc := 110) rfl dX12_readThing_110 rfl (by omega) ?_
                    refine Ru_aload_n (pc := 111) dX12_readThing_111 rfl rfl ?_
                    refine Ru_getR (pc := 112) 5 dX12_readThing_112 fl_X12_35 rfl rfl rfl ?_
                    refine Ru_sipush (pc := 115) (nI 2621) dX12_readThing_115 rfl ?_
                    refine Ru_iload_n (pc := 118) dX12_readThing_118 rfl rfl ?_
                    refine Ru_iaddN (pc := 119) dX12_readThing_119 ?_
                    refine Ru_iconst (pc := 120) (nI 0) dX12_readThing_120 rfl ?_
                    refine Ru_iast (pc := 121) rfl dX12_readThing_121 rfl (by omega) ?_
                    refine Ru_aload_n (pc := 122) dX12_readThing_122 rfl rfl ?_
                    refine Ru_getR (pc := 123) 5 dX12_readThing_123 fl_X12_35 rfl rfl rfl ?_
                    refine Ru_sipush (pc := 126) (nI 2600) dX12_readThing_126 rfl ?_
                    refine Ru_dup2 (pc := 129) dX12_readThing_129 rfl rfl ?_
                    refine Ru_iald (pc := 130) dX12_readThing_130 rfl (by omega) ?_
                    refine Ru_top ((r_sI_n (by omega)).trans ((r_sI_n (by omega)).trans ((r_sI_n (by omega)).trans (hb43 0 (by decide))))) ?_
                    refine Ru_iconst (pc := 131) (nI 1) dX12_readThing_131 rfl ?_
                    refine Ru_iaddN (pc := 132) dX12_readThing_132 ?_
                    refine Ru_iast (pc := 133) rfl dX12_readThing_133 rfl (by omega) ?_
                    refine Ru_vret (pc := 134) dX12_readThing_134 rfl ⟨Nat.le_refl _, Nat.le_refl _⟩ ?_
                    have hN0 : (sNew T 0 8 x s).2 = 0 := by assumption
                    have hok := sNew_ok hN0
                    have hLv := tL_v tw (Or.inl hok.2.2.1)
                    have e1 : sIf T 129 (sNew T 0 8 x s) = (sNew T 0 8 x s) := sIf_n (by assumption)
                    have e2 : sIf T 130 (sNew T 0 8 x s) = ((sNew T 0 8 x s).1 + 1, 0) := sIf_t (by assumption) (by assumption)
                    have eS : thS T x s = ((sNew T 0 8 x s).1 + 1, 0) := by
                      unfold thS
                      rw [e1, e2]
                    have b1 : bIf T 129 (sNew T 0 8 x s) = 0 := bIf_n (by assumption)
                    have b2 : bIf T 130 (sIf T 129 (sNew T 0 8 x s)) = 1 := by
                      rw [e1]
                      exact bIf_t (by assumption) (by assumption)
                    refine k _ (r_fx.sI rfl (r_fx.sI rfl (r_fx.sI rfl (r_fx.sI rfl fx3)))) ⟨fun j hj => ?_, fun j hj => ?_⟩ ?_ (fun _ => ⟨?_, ?_⟩)
                    · refine (r_sI_n (by omega)).trans ?_
                      refine (r_sI_n (by omega)).trans ?_
                      refine (r_sI_n (by omega)).trans ?_
                      refine (r_sI_n (by omega)).trans ?_
                      exact hc53 j
                    · exact hwk3 j (by omega)
                    · rw [eS]
                      exact (Y_rd_dp T ((sNew T 0 8 x s).1 + 1, 0)).kp (F := []) (A := [5]) (r_fx.sI rfl (r_fx.sI rfl (r_fx.sI rfl (r_fx.sI rfl r_fx.rf)))) rfl hr3
                    · intro j hj
                      unfold thX
                      dsimp only
                      by_cases a0 : j = 0
                      · rw [if_pos a0]
                        rw [r_sI_g, if_pos (by omega)]
                        try rfl
                      · rw [if_neg a0]
                        by_cases a1 : j = 5 + x.1 0
                        · rw [if_pos a1]
                          refine (r_sI_n (by omega)).trans ?_
                          refine (r_sI_n (by omega)).trans ?_
                          refine (r_sI_n (by omega)).trans ?_
                          rw [r_sI_g, if_pos (by omega)]
                          rw [b1]
                        · rw [if_neg a1]
                          by_cases a2 : j = 13 + x.1 0
                          · rw [if_pos a2]
                            refine (r_sI_n (by omega)).trans ?_
                            refine (r_sI_n (by omega)).trans ?_
                            rw [r_sI_g, if_pos (by omega)]
                            rw [b2]
                          · rw [if_neg a2]
                            by_cases a3 : j = 21 + x.1 0
                            · rw [if_pos a3]
                              refine (r_sI_n (by omega)).trans ?_
                              rw [r_sI_g, if_pos (by omega)]
                              try rfl
                            · rw [if_neg a3]
                              refine (r_sI_n (by omega)).trans ?_
                              refine (r_sI_n (by omega)).trans ?_
                              refine (r_sI_n (by omega)).trans ?_
                              refine (r_sI_n (by omega)).trans ?_
                              exact hb43 j hj
                    · exact Y_w4_0 hw4 (by have := hok.2.1; omega) ⟨hLv.1, hLv.2.1⟩ (fun q hq => hwk3 q hq) (hnw3.trans (hv2 hN0).2) (if_pos rfl) ((if_neg (by omega)).trans ((if_neg (by omega)).trans ((if_neg (by omega)).trans ((if_neg (by omega)).trans (rfl))))) ((if_neg (by omega)).trans ((if_neg (by omega)).trans ((if_neg (by omega)).trans ((if_neg (by omega)).trans (rfl))))) ((if_neg (by omega)).trans ((if_neg (by omega)).trans ((if_neg (by omega)).trans ((if_neg (by omega)).trans (rfl)))))
                · exfalso
                  omega
              · exfalso
                omega
      · exfalso
        omega
    · replace h6 := of_decide_eq_true h6
      refine Ru_iconst (pc := 23) (nI 1) dX12_readThing_23 rfl ?_
      refine Ru_goto (pc := 24) 28 dX12_readThing_24 (by decide) ?_
      refine Ru_istore_n (pc := 28) dX12_readThing_28 rfl rfl (by decide) ?_
      refine Ru_iload_n (pc := 29) dX12_readThing_29 rfl rfl ?_
      refine Ru_if_eqN (pc := 30) 37 dX12_readThing_30 (by decide) (by omega) (fun h18 => ?_) (fun h18 => ?_)
      · exfalso
        omega
      · refine Ru_aload_n (pc := 33) dX12_readThing_33 rfl rfl ?_
        refine Ru_cv0 (pc := 34) dX12_readThing_34 mv_X12_261 rfl (by decide) (Nat.le_of_ble_eq_true rfl) (c_X12_nextS (s := (sNew T 0 8 x s)) tw hr2 (by first | rfl | assumption | omega) (fun M3 gx3 (hr3 : Y_rd T ((sNew T 0 8 x s).1 + 1, 0) M3) => ?_)) 
        have fx3 : r_fx [(0, 12), (0, 13), (0, 14), (0, 15), (0, 16), (0, 17), (0, 18), (0, 21)] [5, 6] M M3 := fx2.tr (gx3.mono rfl)
        have hb3 := hr3.2.2.2.2
        have ht3 := tTok_b (tK T ((sNew T 0 8 x s).1 + 1))
        have hb43 : Y_b4 x.1 M3 := (Y_b4_dp x.1).kp gx3 rfl hb42
        have hwk3 : ∀ q, ¬ q = 104 + 0 + x.1 0 → M3.2.1 6 q = M.2.1 6 q := fun q hq => (gx3 6 q rfl).2.1.trans (hwk2 q hq)
        have hnw3 : M3.2.1 6 (104 + 0 + x.1 0) = M2.2.1 6 (104 + 0 + x.1 0) := (gx3 6 _ rfl).2.1.trans hnw2
        have hc53 : ∀ q, M3.1 5 q = M.1 5 q := fun q => (gx3 5 q rfl).1.trans (hc52 q)
        refine Ru_aload_n (pc := 37) dX12_readThing_37 rfl rfl ?_
        refine Ru_getI (pc := 38) dX12_readThing_38 fl_X12_251 rfl rfl ?_
        refine Ru_top (show _ = nI 0 from hr3.2.2.1) ?_
        refine Ru_if_neN (pc := 41) 55 dX12_readThing_41 (by decide) (by omega) (fun h19 => ?_) (fun h19 => ?_)
        · exfalso
          omega
        · refine Ru_aload_n (pc := 44) dX12_readThing_44 rfl rfl ?_
          refine Ru_cv0 (pc := 45) dX12_readThing_45 mv_X12_179 rfl (by decide) (Nat.le_of_ble_eq_true rfl) (c_X12_isSend (i := ((sNew T 0 8 x s).1 + 1)) tw hr3.2.1 ?_) 
          refine Ru_if_eqB (pc := 48) 55 dX12_readThing_48 (by decide) (fun h20 => ?_) (fun h20 => ?_)
          · replace h20 := of_decide_eq_false h20
            refine Ru_iconst (pc := 55) (nI 0) dX12_readThing_55 rfl ?_
            refine Ru_istore_n (pc := 56) dX12_readThing_56 rfl rfl (by decide) ?_
            refine Ru_iload_n (pc := 57) dX12_readThing_57 rfl rfl ?_
            refine Ru_if_eqN (pc := 58) 65 dX12_readThing_58 (by decide) (by omega) (fun h21 => ?_) (fun h21 => ?_)
            · refine Ru_aload_n (pc := 65) dX12_readThing_65 rfl rfl ?_
              refine Ru_getI (pc := 66) dX12_readThing_66 fl_X12_251 rfl rfl ?_
              refine Ru_top (show _ = nI 0 from hr3.2.2.1) ?_
              refine Ru_if_leN (pc := 69) 73 dX12_readThing_69 (by decide) (by omega) (fun h22 => ?_) (fun h22 => ?_)
              · have ev := (hv2 (by assumption)).1
                subst ev
                refine Ru_aload_n (pc := 73) dX12_readThing_73 rfl rfl ?_
                refine Ru_getR (pc := 74) 5 dX12_readThing_74 fl_X12_35 rfl rfl rfl ?_
                refine Ru_sipush (pc := 77) (nI 2605) dX12_readThing_77 rfl ?_
                refine Ru_iload_n (pc := 80) dX12_readThing_80 rfl rfl ?_
                refine Ru_iaddN (pc := 81) dX12_readThing_81 ?_
                refine Ru_iload_n (pc := 82) dX12_readThing_82 rfl rfl ?_
                refine Ru_if_eqN (pc := 83) 90 dX12_readThing_83 (by decide) (by omega) (fun h23 => ?_) (fun h23 => ?_)
                · exfalso
                  omega
                · refine Ru_iconst (pc := 86) (nI 1) dX12_readThing_86 rfl ?_
                  refine Ru_goto (pc := 87) 91 dX12_readThing_87 (by decide) ?_
                  refine Ru_iast (pc := 91) rfl dX12_readThing_91 rfl (by omega) ?_
                  refine Ru_aload_n (pc := 92) dX12_readThing_92 rfl rfl ?_
                  refine Ru_getR (pc := 93) 5 dX12_readThing_93 fl_X12_35 rfl rfl rfl ?_
                  refine Ru_sipush (pc := 96) (nI 2613) dX12_readThing_96 rfl ?_
                  refine Ru_iload_n (pc := 99) dX12_readThing_99 rfl rfl ?_
                  refine Ru_iaddN (pc := 100) dX12_readThing_100 ?_
                  refine Ru_iload_n (pc := 101) dX12_readThing_101 rfl rfl ?_
                  refine Ru_if_eqN (pc := 102) 109 dX12_readThing_102 (by decide) (by omega) (fun h24 => ?_) (fun h24 => ?_)
                  · refine Ru_iconst (pc := 109) (nI 0) dX12_readThing_109 rfl ?_
                    refine Ru_iast (pc := 110) rfl dX12_readThing_110 rfl (by omega) ?_
                    refine Ru_aload_n (pc := 111) dX12_readThing_111 rfl rfl ?_
                    refine Ru_getR (pc := 112) 5 dX12_readThing_112 fl_X12_35 rfl rfl rfl ?_
                    refine Ru_sipush (pc := 115) (nI 2621) dX12_readThing_115 rfl ?_
                    refine Ru_iload_n (pc := 118) dX12_readThing_118 rfl rfl ?_
                    refine Ru_iaddN (pc := 119) dX12_readThing_119 ?_
                    refine Ru_iconst (pc := 120) (nI 0) dX12_readThing_120 rfl ?_
                    refine Ru_iast (pc := 121) rfl dX12_readThing_121 rfl (by omega) ?_
                    refine Ru_aload_n (pc := 122) dX12_readThing_122 rfl rfl ?_
                    refine Ru_getR (pc := 123) 5 dX12_readThing_123 fl_X12_35 rfl rfl rfl ?_
                    refine Ru_sipush (pc := 126) (nI 2600) dX12_readThing_126 rfl ?_
                    refine Ru_dup2 (pc := 129) dX12_readThing_129 rfl rfl ?_
                    refine Ru_iald (pc := 130) dX12_readThing_130 rfl (by omega) ?_
                    refine Ru_top ((r_sI_n (by omega)).trans ((r_sI_n (by omega)).trans ((r_sI_n (by omega)).trans (hb43 0 (by decide))))) ?_
                    refine Ru_iconst (pc := 131) (nI 1) dX12_readThing_131 rfl ?_
                    refine Ru_iaddN (pc := 132) dX12_readThing_132 ?_
                    refine Ru_iast (pc := 133) rfl dX12_readThing_133 rfl (by omega) ?_
                    refine Ru_vret (pc := 134) dX12_readThing_134 rfl ⟨Nat.le_refl _, Nat.le_refl _⟩ ?_
                    have hN0 : (sNew T 0 8 x s).2 = 0 := by assumption
                    have hok := sNew_ok hN0
                    have hLv := tL_v tw (Or.inl hok.2.2.1)
                    have e1 : sIf T 129 (sNew T 0 8 x s) = ((sNew T 0 8 x s).1 + 1, 0) := sIf_t (by assumption) (by assumption)
                    have e2 : sIf T 130 ((sNew T 0 8 x s).1 + 1, 0) = ((sNew T 0 8 x s).1 + 1, 0) := sIf_n (by assumption)
                    have eS : thS T x s = ((sNew T 0 8 x s).1 + 1, 0) := by
                      unfold thS
                      rw [e1, e2]
                    have b1 : bIf T 129 (sNew T 0 8 x s) = 1 := bIf_t (by assumption) (by assumption)
                    have b2 : bIf T 130 (sIf T 129 (sNew T 0 8 x s)) = 0 := by
                      rw [e1]
                      exact bIf_n (by assumption)
                    refine k _ (r_fx.sI rfl (r_fx.sI rfl (r_fx.sI rfl (r_fx.sI rfl fx3)))) ⟨fun j hj => ?_, fun j hj => ?_⟩ ?_ (fun _ => ⟨?_, ?_⟩)
                    · refine (r_sI_n (by omega)).trans ?_
                      refine (r_sI_n (by omega)).trans ?_
                      refine (r_sI_n (by omega)).trans ?_
                      refine (r_sI_n (by omega)).trans ?_
                      exact hc53 j
                    · exact hwk3 j (by omega)
                    · rw [eS]
                      exact (Y_rd_dp T ((sNew T 0 8 x s).1 + 1, 0)).kp (F := []) (A := [5]) (r_fx.sI rfl (r_fx.sI rfl (r_fx.sI rfl (r_fx.sI rfl r_fx.rf)))) rfl hr3
                    · intro j hj
                      unfold thX
                      dsimp only
                      by_cases a0 : j = 0
                      · rw [if_pos a0]
                        rw [r_sI_g, if_pos (by omega)]
                        try rfl
                      · rw [if_neg a0]
                        by_cases a1 : j = 5 + x.1 0
                        · rw [if_pos a1]
                          refine (r_sI_n (by omega)).trans ?_
                          refine (r_sI_n (by omega)).trans ?_
                          refine (r_sI_n (by omega)).trans ?_
                          rw [r_sI_g, if_pos (by omega)]
                          rw [b1]
                        · rw [if_neg a1]
                          by_cases a2 : j = 13 + x.1 0
                          · rw [if_pos a2]
                            refine (r_sI_n (by omega)).trans ?_
                            refine (r_sI_n (by omega)).trans ?_
                            rw [r_sI_g, if_pos (by omega)]
                            rw [b2]
                          · rw [if_neg a2]
                            by_cases a3 : j = 21 + x.1 0
                            · rw [if_pos a3]
                              refine (r_sI_n (by omega)).trans ?_
                              rw [r_sI_g, if_pos (by omega)]
                              try rfl
                            · rw [if_neg a3]
                              refine (r_sI_n (by omega)).trans ?_
                              refine (r_sI_n (by omega)).trans ?_
                              refine (r_sI_n (by omega)).trans ?_
                              refine (r_sI_n (by omega)).trans ?_
                              exact hb43 j hj
                    · exact Y_w4_0 hw4 (by have := hok.2.1; omega) ⟨hLv.1, hLv.2.1⟩ (fun q hq => hwk3 q hq) (hnw3.trans (hv2 hN0).2) (if_pos rfl) ((if_neg (by omega)).trans ((if_neg (by omega)).trans ((if_neg (by omega)).trans ((if_neg (by omega)).trans (rfl))))) ((if_neg (by omega)).trans ((if_neg (by omega)).trans ((if_neg (by omega)).trans ((if_neg (by omega)).trans (rfl))))) ((if_neg (by omega)).trans ((if_neg (by omega)).trans ((if_neg (by omega)).trans ((if_neg (by omega)).trans (rfl)))))
                  · exfalso
                    omega
              · exfalso
                omega
            · exfalso
              omega
          · replace h20 := of_decide_eq_true h20
            refine Ru_iconst (pc := 51) (nI 1) dX12_readThing_51 rfl ?_
            refine Ru_goto (pc := 52) 56 dX12_readThing_52 (by decide) ?_
            refine Ru_istore_n (pc := 56) dX12_readThing_56 rfl rfl (by decide) ?_
            refine Ru_iload_n (pc := 57) dX12_readThing_57 rfl rfl ?_
            refine Ru_if_eqN (pc := 58) 65 dX12_readThing_58 (by decide) (by omega) (fun h25 => ?_) (fun h25 => ?_)
            · exfalso
              omega
            · refine Ru_aload_n (pc := 61) dX12_readThing_61 rfl rfl ?_
              refine Ru_cv0 (pc := 62) dX12_readThing_62 mv_X12_261 rfl (by decide) (Nat.le_of_ble_eq_true rfl) (c_X12_nextS (s := ((sNew T 0 8 x s).1 + 1, 0)) tw hr3 (by first | rfl | assumption | omega) (fun M4 gx4 (hr4 : Y_rd T ((sNew T 0 8 x s).1 + 1 + 1, 0) M4) => ?_)) 
              have fx4 : r_fx [(0, 12), (0, 13), (0, 14), (0, 15), (0, 16), (0, 17), (0, 18), (0, 21)] [5, 6] M M4 := fx3.tr (gx4.mono rfl)
              have hb4 := hr4.2.2.2.2
              have ht4 := tTok_b (tK T ((sNew T 0 8 x s).1 + 1 + 1))
              have hb44 : Y_b4 x.1 M4 := (Y_b4_dp x.1).kp gx4 rfl hb43
              have hwk4 : ∀ q, ¬ q = 104 + 0 + x.1 0 → M4.2.1 6 q = M.2.1 6 q := fun q hq => (gx4 6 q rfl).2.1.trans (hwk3 q hq)
              have hnw4 : M4.2.1 6 (104 + 0 + x.1 0) = M2.2.1 6 (104 + 0 + x.1 0) := (gx4 6 _ rfl).2.1.trans hnw3
              have hc54 : ∀ q, M4.1 5 q = M.1 5 q := fun q => (gx4 5 q rfl).1.trans (hc53 q)
              refine Ru_aload_n (pc := 65) dX12_readThing_65 rfl rfl ?_
              refine Ru_getI (pc := 66) dX12_readThing_66 fl_X12_251 rfl rfl ?_
              refine Ru_top (show _ = nI 0 from hr4.2.2.1) ?_
              refine Ru_if_leN (pc := 69) 73 dX12_readThing_69 (by decide) (by omega) (fun h26 => ?_) (fun h26 => ?_)
              · have ev := (hv2 (by assumption)).1
                subst ev
                refine Ru_aload_n (pc := 73) dX12_readThing_73 rfl rfl ?_
                refine Ru_getR (pc := 74) 5 dX12_readThing_74 fl_X12_35 rfl rfl rfl ?_
                refine Ru_sipush (pc := 77) (nI 2605) dX12_readThing_77 rfl ?_
                refine Ru_iload_n (pc := 80) dX12_readThing_80 rfl rfl ?_
                refine Ru_iaddN (pc := 81) dX12_readThing_81 ?_
                refine Ru_iload_n (pc := 82) dX12_readThing_82 rfl rfl ?_
                refine Ru_if_eqN (pc := 83) 90 dX12_readThing_83 (by decide) (by omega) (fun h27 => ?_) (fun h27 => ?_)
                · exfalso
                  omega
                · refine Ru_iconst (pc := 86) (nI 1) dX12_readThing_86 rfl ?_
                  refine Ru_goto (pc := 87) 91 dX12_readThing_87 (by decide) ?_
                  refine Ru_iast (pc := 91) rfl dX12_readThing_91 rfl (by omega) ?_
                  refine Ru_aload_n (pc := 92) dX12_readThing_92 rfl rfl ?_
                  refine Ru_getR (pc := 93) 5 dX12_readThing_93 fl_X12_35 rfl rfl rfl ?_
                  refine Ru_sipush (pc := 96) (nI 2613) dX12_readThing_96 rfl ?_
                  refine Ru_iload_n (pc := 99) dX12_readThing_99 rfl rfl ?_
                  refine Ru_iaddN (pc := 100) dX12_readThing_100 ?_
                  refine Ru_iload_n (pc := 101) dX12_readThing_101 rfl rfl ?_
                  refine Ru_if_eqN (pc := 102) 109 dX12_readThing_102 (by decide) (by omega) (fun h28 => ?_) (fun h28 => ?_)
                  · exfalso
                    omega
                  · refine Ru_iconst (pc := 105) (nI 1) dX12_readThing_105 rfl ?_
                    refine Ru_goto (pc := 106) 110 dX12_readThing_106 (by decide) ?_
                    refine Ru_iast (pc := 110) rfl dX12_readThing_110 rfl (by omega) ?_
                    refine Ru_aload_n (pc := 111) dX12_readThing_111 rfl rfl ?_
                    refine Ru_getR (pc := 112) 5 dX12_readThing_112 fl_X12_35 rfl rfl rfl ?_
                    refine Ru_sipush (pc := 115) (nI 2621) dX12_readThing_115 rfl ?_
                    refine Ru_iload_n (pc := 118) dX12_readThing_118 rfl rfl ?_
                    refine Ru_iaddN (pc := 119) dX12_readThing_119 ?_
                    refine Ru_iconst (pc := 120) (nI 0) dX12_readThing_120 rfl ?_
                    refine Ru_iast (pc := 121) rfl dX12_readThing_121 rfl (by omega) ?_
                    refine Ru_aload_n (pc := 122) dX12_readThing_122 rfl rfl ?_
                    refine Ru_getR (pc := 123) 5 dX12_readThing_123 fl_X12_35 rfl rfl rfl ?_
                    refine Ru_sipush (pc := 126) (nI 2600) dX12_readThing_126 rfl ?_
                    refine Ru_dup2 (pc := 129) dX12_readThing_129 rfl rfl ?_
                    refine Ru_iald (pc := 130) dX12_readThing_130 rfl (by omega) ?_
                    refine Ru_top ((r_sI_n (by omega)).trans ((r_sI_n (by omega)).trans ((r_sI_n (by omega)).trans (hb44 0 (by decide))))) ?_
                    refine Ru_iconst (pc := 131) (nI 1) dX12_readThing_131 rfl ?_
                    refine Ru_iaddN (pc := 132) dX12_readThing_132 ?_
                    refine Ru_iast (pc := 133) rfl dX12_readThing_133 rfl (by omega) ?_
                    refine Ru_vret (pc := 134) dX12_readThing_134 rfl ⟨Nat.le_refl _, Nat.le_refl _⟩ ?_
                    have hN0 : (sNew T 0 8 x s).2 = 0 := by assumption
                    have hok := sNew_ok hN0
                    have hLv := tL_v tw (Or.inl hok.2.2.1)
                    have e1 : sIf T 129 (sNew T 0 8 x s) = ((sNew T 0 8 x s).1 + 1, 0) := sIf_t (by assumption) (by assumption)
                    have e2 : sIf T 130 ((sNew T 0 8 x s).1 + 1, 0) = (((sNew T 0 8 x s).1 + 1, 0).1 + 1, 0) := sIf_t (rfl) (by assumption)
                    have eS : thS T x s = ((sNew T 0 8 x s).1 + 1 + 1, 0) := by
                      unfold thS
                      rw [e1, e2]
                    have b1 : bIf T 129 (sNew T 0 8 x s) = 1 := bIf_t (by assumption) (by assumption)
                    have b2 : bIf T 130 (sIf T 129 (sNew T 0 8 x s)) = 1 := by
                      rw [e1]
                      exact bIf_t (rfl) (by assumption)
                    refine k _ (r_fx.sI rfl (r_fx.sI rfl (r_fx.sI rfl (r_fx.sI rfl fx4)))) ⟨fun j hj => ?_, fun j hj => ?_⟩ ?_ (fun _ => ⟨?_, ?_⟩)
                    · refine (r_sI_n (by omega)).trans ?_
                      refine (r_sI_n (by omega)).trans ?_
                      refine (r_sI_n (by omega)).trans ?_
                      refine (r_sI_n (by omega)).trans ?_
                      exact hc54 j
                    · exact hwk4 j (by omega)
                    · rw [eS]
                      exact (Y_rd_dp T ((sNew T 0 8 x s).1 + 1 + 1, 0)).kp (F := []) (A := [5]) (r_fx.sI rfl (r_fx.sI rfl (r_fx.sI rfl (r_fx.sI rfl r_fx.rf)))) rfl hr4
                    · intro j hj
                      unfold thX
                      dsimp only
                      by_cases a0 : j = 0
                      · rw [if_pos a0]
                        rw [r_sI_g, if_pos (by omega)]
                        try rfl
                      · rw [if_neg a0]
                        by_cases a1 : j = 5 + x.1 0
                        · rw [if_pos a1]
                          refine (r_sI_n (by omega)).trans ?_
                          refine (r_sI_n (by omega)).trans ?_
                          refine (r_sI_n (by omega)).trans ?_
                          rw [r_sI_g, if_pos (by omega)]
                          rw [b1]
                        · rw [if_neg a1]
                          by_cases a2 : j = 13 + x.1 0
                          · rw [if_pos a2]
                            refine (r_sI_n (by omega)).trans ?_
                            refine (r_sI_n (by omega)).trans ?_
                            rw [r_sI_g, if_pos (by omega)]
                            rw [b2]
                          · rw [if_neg a2]
                            by_cases a3 : j = 21 + x.1 0
                            · rw [if_pos a3]
                              refine (r_sI_n (by omega)).trans ?_
                              rw [r_sI_g, if_pos (by omega)]
                              try rfl
                            · rw [if_neg a3]
                              refine (r_sI_n (by omega)).trans ?_
                              refine (r_sI_n (by omega)).trans ?_
                              refine (r_sI_n (by omega)).trans ?_
                              refine (r_sI_n (by omega)).trans ?_
                              exact hb44 j hj
                    · exact Y_w4_0 hw4 (by have := hok.2.1; omega) ⟨hLv.1, hLv.2.1⟩ (fun q hq => hwk4 q hq) (hnw4.trans (hv2 hN0).2) (if_pos rfl) ((if_neg (by omega)).trans ((if_neg (by omega)).trans ((if_neg (by omega)).trans ((if_neg (by omega)).trans (rfl))))) ((if_neg (by omega)).trans ((if_neg (by omega)).trans ((if_neg (by omega)).trans ((if_neg (by omega)).trans (rfl))))) ((if_neg (by omega)).trans ((if_neg (by omega)).trans ((if_neg (by omega)).trans ((if_neg (by omega)).trans (rfl)))))
              · exfalso
                omega

theorem c_X12_readMaking {Q : Rq} {M : Mem} {T : Tx} {s : Ps} (tw : Tw T) (hr : Y_rd T s M) {x : St9} (hb4 : Y_b4 x.1 M) (hw4 : Y_w4 x M) (k : ∀ M', r_fx [(0, 12), (0, 13), (0, 14), (0, 15), (0, 16), (0, 17), (0, 18), (0, 21)] [5, 6] M M' → Y_lo M M' → Y_rd T (mkS T x s) M' → ((mkS T x s).2 = 0 → Y_b4 (mkX T x s).1 M' ∧ Y_w4 (mkX T x s) M') → Q none GY M') : Ca 6 mt_X12_readMaking 0 0 [.ref 0] GY M Q := by
  refine Ca_of rfl (Nat.le_of_ble_eq_true rfl) ?_
  have hb0 := hr.2.2.2.2
  have ht0 := tTok_b (tK T s.1)
  have hcb := hw4.2.2.2
  have hp := pw_le hcb.1
  refine Ru_aload_n (pc := 0) dX12_readMaking_0 rfl rfl ?_
  refine Ru_iconst (pc := 1) (nI 1) dX12_readMaking_1 rfl ?_
  refine Ru_bipush (pc := 2) (nI 12) dX12_readMaking_2 rfl ?_
  refine Ru_bipush (pc := 4) (nI 8) dX12_readMaking_4 rfl ?_
  refine Ru_cv3 (pc := 6) dX12_readMaking_6 mv_X12_284 rfl (by decide) (Nat.le_of_ble_eq_true rfl) (c_X12_readNew_1 (s := s) (x := x) tw hr hb4 hw4 (fun M2 v2 gx2 hwk2 hr2 hv2 => ?_)) 
  have fx2 : r_fx [(0, 12), (0, 13), (0, 14), (0, 15), (0, 16), (0, 17), (0, 18), (0, 21)] [5, 6] M M2 := gx2.mono rfl
  have hb2 := hr2.2.2.2.2
  have ht2 := tTok_b (tK T (sNew T 1 12 x s).1)
  have hb42 : Y_b4 x.1 M2 := (Y_b4_dp x.1).kp gx2 rfl hb4
  have hnw2 : M2.2.1 6 (104 + 8 + x.1 1) = M2.2.1 6 (104 + 8 + x.1 1) := rfl
  have hc52 : ∀ q, M2.1 5 q = M.1 5 q := fun q => (gx2 5 q rfl).1
  refine Ru_istore_n (pc := 9) dX12_readMaking_9 rfl rfl (by decide) ?_
  refine Ru_aload_n (pc := 10) dX12_readMaking_10 rfl rfl ?_
  refine Ru_aload_n (pc := 11) dX12_readMaking_11 rfl rfl ?_
  refine Ru_cv0 (pc := 12) dX12_readMaking_12 mv_X12_185 rfl (by decide) (Nat.le_of_ble_eq_true rfl) (c_X12_isGives (i := (sNew T 1 12 x s).1) tw hr2.2.1 ?_) 
  refine Ru_cv1 (pc := 15) dX12_readMaking_15 mv_X12_290 rfl (by decide) (Nat.le_of_ble_eq_true rfl) (c_X12_must (s := (sNew T 1 12 x s)) (b := (decide (tK T (sNew T 1 12 x s).1 = 132))) tw hr2 (fun M3 gx3 (hr3 : Y_rd T (sMust T (decide (tK T (sNew T 1 12 x s).1 = 132)) (sNew T 1 12 x s)) M3) => ?_)) 
  have fx3 : r_fx [(0, 12), (0, 13), (0, 14), (0, 15), (0, 16), (0, 17), (0, 18), (0, 21)] [5, 6] M M3 := fx2.tr (gx3.mono rfl)
  have hb3 := hr3.2.2.2.2
  have ht3 := tTok_b (tK T (sMust T (decide (tK T (sNew T 1 12 x s).1 = 132)) (sNew T 1 12 x s)).1)
  have hb43 : Y_b4 x.1 M3 := (Y_b4_dp x.1).kp gx3 rfl hb42
  have hwk3 : ∀ q, ¬ q = 104 + 8 + x.1 1 → M3.2.1 6 q = M.2.1 6 q := fun q hq => (gx3 6 q rfl).2.1.trans (hwk2 q hq)
  have hnw3 : M3.2.1 6 (104 + 8 + x.1 1) = M2.2.1 6 (104 + 8 + x.1 1) := (gx3 6 _ rfl).2.1.trans hnw2
  have hc53 : ∀ q, M3.1 5 q = M.1 5 q := fun q => (gx3 5 q rfl).1.trans (hc52 q)
  have hr3 : Y_rd T (mk1 T x s) M3 := hr3
  have hb3 := hr3.2.2.2.2
  have ht3 := tTok_b (tK T (mk1 T x s).1)
  refine Ru_aload_n (pc := 18) dX12_readMaking_18 rfl rfl ?_
  refine Ru_iconst (pc := 19) (nI 4) dX12_readMaking_19 rfl ?_
  refine Ru_iconst (pc := 20) (nI 0) dX12_readMaking_20 rfl ?_
  refine Ru_iconst (pc := 21) (nI 0) dX12_readMaking_21 rfl ?_
  refine Ru_cv3 (pc := 22) dX12_readMaking_22 mv_X12_287 rfl (by decide) (Nat.le_of_ble_eq_true rfl) (c_X12_readOld (s := (mk1 T x s)) (W := x.2) (b := 4) (th := 0) (f := 0) (w0 := 0) (n := x.1 0) tw hr3 (by omega) (by decide) (by omega) (hb43 0 (by decide)) (fun k hk => ⟨(hwk3 (104 + k) (by omega)).trans (hw4.1 k hk).1, (hw4.1 k hk).2⟩) (fun M4 v4 gx4 hr4 hv4 => ?_)) 
  have fx4 : r_fx [(0, 12), (0, 13), (0, 14), (0, 15), (0, 16), (0, 17), (0, 18), (0, 21)] [5, 6] M M4 := fx3.tr (gx4.mono rfl)
  have hb4 := hr4.2.2.2.2
  have ht4 := tTok_b (tK T (sOld T x.2 0 (x.1 0) (mk1 T x s)).1)
  have hb44 : Y_b4 x.1 M4 := (Y_b4_dp x.1).kp gx4 rfl hb43
  have hwk4 : ∀ q, ¬ q = 104 + 8 + x.1 1 → M4.2.1 6 q = M.2.1 6 q := fun q hq => (gx4 6 q rfl).2.1.trans (hwk3 q hq)
  have hnw4 : M4.2.1 6 (104 + 8 + x.1 1) = M2.2.1 6 (104 + 8 + x.1 1) := (gx4 6 _ rfl).2.1.trans hnw3
  have hc54 : ∀ q, M4.1 5 q = M.1 5 q := fun q => (gx4 5 q rfl).1.trans (hc53 q)
  refine Ru_istore_n (pc := 25) dX12_readMaking_25 rfl rfl (by decide) ?_
  refine Ru_aload_n (pc := 26) dX12_readMaking_26 rfl rfl ?_
  refine Ru_iconst (pc := 27) (nI 1) dX12_readMaking_27 rfl ?_
  refine Ru_cv1 (pc := 28) dX12_readMaking_28 mv_X12_290 rfl (by decide) (Nat.le_of_ble_eq_true rfl) (c_X12_must (s := (sOld T x.2 0 (x.1 0) (mk1 T x s))) (b := true) tw hr4 (fun M5 gx5 (hr5 : Y_rd T (sNext (sOld T x.2 0 (x.1 0) (mk1 T x s))) M5) => ?_)) 
  have fx5 : r_fx [(0, 12), (0, 13), (0, 14), (0, 15), (0, 16), (0, 17), (0, 18), (0, 21)] [5, 6] M M5 := fx4.tr (gx5.mono rfl)
  have hb5 := hr5.2.2.2.2
  have ht5 := tTok_b (tK T (sNext (sOld T x.2 0 (x.1 0) (mk1 T x s))).1)
  have hb45 : Y_b4 x.1 M5 := (Y_b4_dp x.1).kp gx5 rfl hb44
  have hwk5 : ∀ q, ¬ q = 104 + 8 + x.1 1 → M5.2.1 6 q = M.2.1 6 q := fun q hq => (gx5 6 q rfl).2.1.trans (hwk4 q hq)
  have hnw5 : M5.2.1 6 (104 + 8 + x.1 1) = M2.2.1 6 (104 + 8 + x.1 1) := (gx5 6 _ rfl).2.1.trans hnw4
  have hc55 : ∀ q, M5.1 5 q = M.1 5 q := fun q => (gx5 5 q rfl).1.trans (hc54 q)
  have hr5 : Y_rd T (mk2 T x s) M5 := hr5
  have hb5 := hr5.2.2.2.2
  have ht5 := tTok_b (tK T (mk2 T x s).1)
  refine Ru_aload_n (pc := 31) dX12_readMaking_31 rfl rfl ?_
  refine Ru_aload_n (pc := 32) dX12_readMaking_32 rfl rfl ?_
  refine Ru_cv0 (pc := 33) dX12_readMaking_33 mv_X12_188 rfl (by decide) (Nat.le_of_ble_eq_true rfl) (c_X12_isHours (i := (mk2 T x s).1) tw hr5.2.1 ?_) 
  refine Ru_cv1 (pc := 36) dX12_readMaking_36 mv_X12_290 rfl (by decide) (Nat.le_of_ble_eq_true rfl) (c_X12_must (s := (mk2 T x s)) (b := (decide (tK T (mk2 T x s).1 = 133))) tw hr5 (fun M6 gx6 (hr6 : Y_rd T (sMust T (decide (tK T (mk2 T x s).1 = 133)) (mk2 T x s)) M6) => ?_)) 
  have fx6 : r_fx [(0, 12), (0, 13), (0, 14), (0, 15), (0, 16), (0, 17), (0, 18), (0, 21)] [5, 6] M M6 := fx5.tr (gx6.mono rfl)
  have hb6 := hr6.2.2.2.2
  have ht6 := tTok_b (tK T (sMust T (decide (tK T (mk2 T x s).1 = 133)) (mk2 T x s)).1)
  have hb46 : Y_b4 x.1 M6 := (Y_b4_dp x.1).kp gx6 rfl hb45
  have hwk6 : ∀ q, ¬ q = 104 + 8 + x.1 1 → M6.2.1 6 q = M.2.1 6 q := fun q hq => (gx6 6 q rfl).2.1.trans (hwk5 q hq)
  have hnw6 : M6.2.1 6 (104 + 8 + x.1 1) = M2.2.1 6 (104 + 8 + x.1 1) := (gx6 6 _ rfl).2.1.trans hnw5
  have hc56 : ∀ q, M6.1 5 q = M.1 5 q := fun q => (gx6 5 q rfl).1.trans (hc55 q)
  have hr6 : Y_rd T (mk3 T x s) M6 := hr6
  have hb6 := hr6.2.2.2.2
  have ht6 := tTok_b (tK T (mk3 T x s).1)
  refine Ru_aload_n (pc := 39) dX12_readMaking_39 rfl rfl ?_
  refine Ru_iconst (pc := 40) (nI 1) dX12_readMaking_40 rfl ?_
  refine Ru_bipush (pc := 41) (nI 24) dX12_readMaking_41 rfl ?_
  refine Ru_cv2 (pc := 43) dX12_readMaking_43 mv_X12_294 rfl (by decide) (Nat.le_of_ble_eq_true rfl) (c_X12_count (s := (mk3 T x s)) (lo := 1) (hi := 24) tw hr6 (by decide) (fun M7 v7 gx7 hr7 hv7 => ?_)) 
  have fx7 : r_fx [(0, 12), (0, 13), (0, 14), (0, 15), (0, 16), (0, 17), (0, 18), (0, 21)] [5, 6] M M7 := fx6.tr (gx7.mono rfl)
  have hb7 := hr7.2.2.2.2
  have ht7 := tTok_b (tK T (sCount T 1 24 (mk3 T x s)).1)
  have hb47 : Y_b4 x.1 M7 := (Y_b4_dp x.1).kp gx7 rfl hb46
  have hwk7 : ∀ q, ¬ q = 104 + 8 + x.1 1 → M7.2.1 6 q = M.2.1 6 q := fun q hq => (gx7 6 q rfl).2.1.trans (hwk6 q hq)
  have hnw7 : M7.2.1 6 (104 + 8 + x.1 1) = M2.2.1 6 (104 + 8 + x.1 1) := (gx7 6 _ rfl).2.1.trans hnw6
  have hc57 : ∀ q, M7.1 5 q = M.1 5 q := fun q => (gx7 5 q rfl).1.trans (hc56 q)
  have hr7 : Y_rd T (mk4 T x s) M7 := hr7
  have hb7 := hr7.2.2.2.2
  have ht7 := tTok_b (tK T (mk4 T x s).1)
  refine Ru_istore_n (pc := 46) dX12_readMaking_46 rfl rfl (by decide) ?_
  refine Ru_aload_n (pc := 47) dX12_readMaking_47 rfl rfl ?_
  refine Ru_aload_n (pc := 48) dX12_readMaking_48 rfl rfl ?_
  refine Ru_cv0 (pc := 49) dX12_readMaking_49 mv_X12_191 rfl (by decide) (Nat.le_of_ble_eq_true rfl) (c_X12_isHands (i := (mk4 T x s).1) tw hr7.2.1 ?_) 
  refine Ru_cv1 (pc := 52) dX12_readMaking_52 mv_X12_290 rfl (by decide) (Nat.le_of_ble_eq_true rfl) (c_X12_must (s := (mk4 T x s)) (b := (decide (tK T (mk4 T x s).1 = 134))) tw hr7 (fun M8 gx8 (hr8 : Y_rd T (sMust T (decide (tK T (mk4 T x s).1 = 134)) (mk4 T x s)) M8) => ?_)) 
  have fx8 : r_fx [(0, 12), (0, 13), (0, 14), (0, 15), (0, 16), (0, 17), (0, 18), (0, 21)] [5, 6] M M8 := fx7.tr (gx8.mono rfl)
  have hb8 := hr8.2.2.2.2
  have ht8 := tTok_b (tK T (sMust T (decide (tK T (mk4 T x s).1 = 134)) (mk4 T x s)).1)
  have hb48 : Y_b4 x.1 M8 := (Y_b4_dp x.1).kp gx8 rfl hb47
  have hwk8 : ∀ q, ¬ q = 104 + 8 + x.1 1 → M8.2.1 6 q = M.2.1 6 q := fun q hq => (gx8 6 q rfl).2.1.trans (hwk7 q hq)
  have hnw8 : M8.2.1 6 (104 + 8 + x.1 1) = M2.2.1 6 (104 + 8 + x.1 1) := (gx8 6 _ rfl).2.1.trans hnw7
  have hc58 : ∀ q, M8.1 5 q = M.1 5 q := fun q => (gx8 5 q rfl).1.trans (hc57 q)
  have hr8 : Y_rd T (mk5 T x s) M8 := hr8
  have hb8 := hr8.2.2.2.2
  have ht8 := tTok_b (tK T (mk5 T x s).1)
  refine Ru_aload_n (pc := 55) dX12_readMaking_55 rfl rfl ?_
  refine Ru_iconst (pc := 56) (nI 1) dX12_readMaking_56 rfl ?_
  refine Ru_iconst (pc := 57) (nI 3) dX12_readMaking_57 rfl ?_
  refine Ru_cv2 (pc := 58) dX12_readMaking_58 mv_X12_294 rfl (by decide) (Nat.le_of_ble_eq_true rfl) (c_X12_count (s := (mk5 T x s)) (lo := 1) (hi := 3) tw hr8 (by decide) (fun M9 v9 gx9 hr9 hv9 => ?_)) 
  have fx9 : r_fx [(0, 12), (0, 13), (0, 14), (0, 15), (0, 16), (0, 17), (0, 18), (0, 21)] [5, 6] M M9 := fx8.tr (gx9.mono rfl)
  have hb9 := hr9.2.2.2.2
  have ht9 := tTok_b (tK T (sCount T 1 3 (mk5 T x s)).1)
  have hb49 : Y_b4 x.1 M9 := (Y_b4_dp x.1).kp gx9 rfl hb48
  have hwk9 : ∀ q, ¬ q = 104 + 8 + x.1 1 → M9.2.1 6 q = M.2.1 6 q := fun q hq => (gx9 6 q rfl).2.1.trans (hwk8 q hq)
  have hnw9 : M9.2.1 6 (104 + 8 + x.1 1) = M2.2.1 6 (104 + 8 + x.1 1) := (gx9 6 _ rfl).2.1.trans hnw8
  have hc59 : ∀ q, M9.1 5 q = M.1 5 q := fun q => (gx9 5 q rfl).1.trans (hc58 q)
  have hr9 : Y_rd T (mk6 T x s) M9 := hr9
  have hb9 := hr9.2.2.2.2
  have ht9 := tTok_b (tK T (mk6 T x s).1)
  refine Ru_istore (pc := 61) dX12_readMaking_61 rfl (by decide) ?_
  refine Ru_aload_n (pc := 63) dX12_readMaking_63 rfl rfl ?_
  refine Ru_getI (pc := 64) dX12_readMaking_64 fl_X12_251 rfl rfl ?_
  refine Ru_top hr9.2.2.1 ?_
  refine Ru_if_neN (pc := 67) 85 dX12_readMaking_67 (by decide) (by omega) (fun h1 => ?_) (fun h1 => ?_)
  · refine Ru_iconst (pc := 85) (nI 0) dX12_readMaking_85 rfl ?_
    have emk7 : (mk7 T x s) = (0, (mk6 T x s)) := if_neg (by
        rintro ⟨y1, y2⟩
        first | exact absurd y2 (by assumption) | omega)
    refine Ru_top (show nI 0 = nI (mk7 T x s).1 from by rw [emk7]) ?_
    have hr9 : Y_rd T (mk7 T x s).2 M9 := by rw [emk7]; exact hr9
    have hb9 := hr9.2.2.2.2
    have ht9 := tTok_b (tK T (mk7 T x s).2.1)
    have ltmk7 : (mk7 T x s).1 < 2 ^ x.1 0 := sOpt_lt
    have zmk7 : ¬ (mk7 T x s).2.2 = 0 := by rw [emk7]; show ¬ (mk6 T x s).2 = 0; omega
    refine Ru_istore (pc := 86) dX12_readMaking_86 rfl (by decide) ?_
    refine Ru_aload_n (pc := 88) dX12_readMaking_88 rfl rfl ?_
    refine Ru_getI (pc := 89) dX12_readMaking_89 fl_X12_251 rfl rfl ?_
    refine Ru_top hr9.2.2.1 ?_
    refine Ru_if_neN (pc := 92) 111 dX12_readMaking_92 (by decide) (by omega) (fun h2 => ?_) (fun h2 => ?_)
    · refine Ru_iconst (pc := 111) (nI 0) dX12_readMaking_111 rfl ?_
      have emk8 : (mk8 T x s) = (0, (mk7 T x s).2) := if_neg (by
          rintro ⟨y1, y2⟩
          first | exact absurd y2 (by assumption) | omega)
      refine Ru_top (show nI 0 = nI (mk8 T x s).1 from by rw [emk8]) ?_
      have hr9 : Y_rd T (mk8 T x s).2 M9 := by rw [emk8]; exact hr9
      have hb9 := hr9.2.2.2.2
      have ht9 := tTok_b (tK T (mk8 T x s).2.1)
      have ltmk8 : (mk8 T x s).1 < 2 ^ x.1 0 := sOpt_lt
      have zmk8 : ¬ (mk8 T x s).2.2 = 0 := by rw [emk8]; show ¬ (mk7 T x s).2.2 = 0; omega
      refine Ru_istore (pc := 112) dX12_readMaking_112 rfl (by decide) ?_
      refine Ru_aload_n (pc := 114) dX12_readMaking_114 rfl rfl ?_
      refine Ru_getI (pc := 115) dX12_readMaking_115 fl_X12_251 rfl rfl ?_
      refine Ru_top hr9.2.2.1 ?_
      refine Ru_if_leN (pc := 118) 122 dX12_readMaking_118 (by decide) (by omega) (fun h3 => ?_) (fun h3 => ?_)
      · exfalso
        omega
      · refine Ru_vret (pc := 121) dX12_readMaking_121 rfl ⟨Nat.le_refl _, Nat.le_refl _⟩ ?_
        have eS : mkS T x s = (mk8 T x s).2 := rfl
        refine k M9 (fx9.mono rfl) ⟨fun j _ => hc59 j, fun j hj => hwk9 j (by omega)⟩ (by rw [eS]; exact hr9) (fun z => ?_)
        exfalso
        rw [eS] at z
        first | exact absurd z (by assumption) | omega
    · exfalso
      omega
  · refine Ru_aload_n (pc := 70) dX12_readMaking_70 rfl rfl ?_
    refine Ru_cv0 (pc := 71) dX12_readMaking_71 mv_X12_194 rfl (by decide) (Nat.le_of_ble_eq_true rfl) (c_X12_isOf (i := (mk6 T x s).1) tw hr9.2.1 ?_) 
    refine Ru_if_eqB (pc := 74) 85 dX12_readMaking_74 (by decide) (fun h4 => ?_) (fun h4 => ?_)
    · replace h4 := of_decide_eq_false h4
      refine Ru_iconst (pc := 85) (nI 0) dX12_readMaking_85 rfl ?_
      have emk7 : (mk7 T x s) = (0, (mk6 T x s)) := if_neg (by
          rintro ⟨y1, y2⟩
          first | exact absurd y2 (by assumption) | omega)
      refine Ru_top (show nI 0 = nI (mk7 T x s).1 from by rw [emk7]) ?_
      have hr9 : Y_rd T (mk7 T x s).2 M9 := by rw [emk7]; exact hr9
      have hb9 := hr9.2.2.2.2
      have ht9 := tTok_b (tK T (mk7 T x s).2.1)
      have ltmk7 : (mk7 T x s).1 < 2 ^ x.1 0 := sOpt_lt
      have zmk7 : (mk7 T x s).2.2 = 0 := by rw [emk7]; show (mk6 T x s).2 = 0; omega
      refine Ru_istore (pc := 86) dX12_readMaking_86 rfl (by decide) ?_
      refine Ru_aload_n (pc := 88) dX12_readMaking_88 rfl rfl ?_
      refine Ru_getI (pc := 89) dX12_readMaking_89 fl_X12_251 rfl rfl ?_
      refine Ru_top hr9.2.2.1 ?_
      refine Ru_if_neN (pc := 92) 111 dX12_readMaking_92 (by decide) (by omega) (fun h5 => ?_) (fun h5 => ?_)
      · exfalso
        omega
      · refine Ru_aload_n (pc := 95) dX12_readMaking_95 rfl rfl ?_
        refine Ru_cv0 (pc := 96) dX12_readMaking_96 mv_X12_197 rfl (by decide) (Nat.le_of_ble_eq_true rfl) (c_X12_isWith (i := (mk7 T x s).2.1) tw hr9.2.1 ?_) 
        refine Ru_if_eqB (pc := 99) 111 dX12_readMaking_99 (by decide) (fun h6 => ?_) (fun h6 => ?_)
        · replace h6 := of_decide_eq_false h6
          refine Ru_iconst (pc := 111) (nI 0) dX12_readMaking_111 rfl ?_
          have emk8 : (mk8 T x s) = (0, (mk7 T x s).2) := if_neg (by
              rintro ⟨y1, y2⟩
              first | exact absurd y2 (by assumption) | omega)
          refine Ru_top (show nI 0 = nI (mk8 T x s).1 from by rw [emk8]) ?_
          have hr9 : Y_rd T (mk8 T x s).2 M9 := by rw [emk8]; exact hr9
          have hb9 := hr9.2.2.2.2
          have ht9 := tTok_b (tK T (mk8 T x s).2.1)
          have ltmk8 : (mk8 T x s).1 < 2 ^ x.1 0 := sOpt_lt
          have zmk8 : (mk8 T x s).2.2 = 0 := by rw [emk8]; show (mk7 T x s).2.2 = 0; omega
          refine Ru_istore (pc := 112) dX12_readMaking_112 rfl (by decide) ?_
          refine Ru_aload_n (pc := 114) dX12_readMaking_114 rfl rfl ?_
          refine Ru_getI (pc := 115) dX12_readMaking_115 fl_X12_251 rfl rfl ?_
          refine Ru_top hr9.2.2.1 ?_
          refine Ru_if_leN (pc := 118) 122 dX12_readMaking_118 (by decide) (by omega) (fun h7 => ?_) (fun h7 => ?_)
          · have z8 : (mk8 T x s).2.2 = 0 := by assumption
            have z7 : (mk7 T x s).2.2 = 0 := sOpt_0 z8
            have z6 : (mk6 T x s).2 = 0 := sOpt_0 z7
            have z5 : (mk5 T x s).2 = 0 := sCount_0 z6
            have z4 : (mk4 T x s).2 = 0 := sMust_0 z5
            have z3 : (mk3 T x s).2 = 0 := sCount_0 z4
            have z2 : (mk2 T x s).2 = 0 := sMust_0 z3
            have z1o : (sOld T x.2 0 (x.1 0) (mk1 T x s)).2 = 0 := sNext_0 z2
            have z1 : (mk1 T x s).2 = 0 := sOld_0 z1o
            have hN0 : (sNew T 1 12 x s).2 = 0 := sMust_0 z1
            have hok := sNew_ok hN0
            have hLv := tL_v tw (Or.inl hok.2.2.1)
            have ev1 := (hv2 hN0).1
            subst ev1
            have ev2 : v4 = nI (fN x.2 (tL T (mk1 T x s).1) 0 (x.1 0) - 1) := hv4 z1o
            subst ev2
            have ev3 : v7 = nI (tV T (mk3 T x s).1) := hv7 z4
            subst ev3
            have ev4 : v9 = nI (tV T (mk5 T x s).1) := hv9 z6
            subst ev4
            refine Ru_aload_n (pc := 122) dX12_readMaking_122 rfl rfl ?_
            refine Ru_getR (pc := 123) 5 dX12_readMaking_123 fl_X12_35 rfl rfl rfl ?_
            refine Ru_sipush (pc := 126) (nI 2629) dX12_readMaking_126 rfl ?_
            refine Ru_iload_n (pc := 129) dX12_readMaking_129 rfl rfl ?_
            refine Ru_iaddN (pc := 130) dX12_readMaking_130 ?_
            refine Ru_iload_n (pc := 131) dX12_readMaking_131 rfl rfl ?_
            refine Ru_iast (pc := 132) rfl dX12_readMaking_132 rfl (by omega) ?_
            refine Ru_aload_n (pc := 133) dX12_readMaking_133 rfl rfl ?_
            refine Ru_getR (pc := 134) 5 dX12_readMaking_134 fl_X12_35 rfl rfl rfl ?_
            refine Ru_sipush (pc := 137) (nI 2641) dX12_readMaking_137 rfl ?_
            refine Ru_iload_n (pc := 140) dX12_readMaking_140 rfl rfl ?_
            refine Ru_iaddN (pc := 141) dX12_readMaking_141 ?_
            refine Ru_iload_n (pc := 142) dX12_readMaking_142 rfl rfl ?_
            refine Ru_iast (pc := 143) rfl dX12_readMaking_143 rfl (by omega) ?_
            refine Ru_aload_n (pc := 144) dX12_readMaking_144 rfl rfl ?_
            refine Ru_getR (pc := 145) 5 dX12_readMaking_145 fl_X12_35 rfl rfl rfl ?_
            refine Ru_sipush (pc := 148) (nI 2653) dX12_readMaking_148 rfl ?_
            refine Ru_iload_n (pc := 151) dX12_readMaking_151 rfl rfl ?_
            refine Ru_iaddN (pc := 152) dX12_readMaking_152 ?_
            refine Ru_iload (pc := 153) dX12_readMaking_153 rfl ?_
            refine Ru_iast (pc := 155) rfl dX12_readMaking_155 rfl (by omega) ?_
            refine Ru_aload_n (pc := 156) dX12_readMaking_156 rfl rfl ?_
            refine Ru_getR (pc := 157) 5 dX12_readMaking_157 fl_X12_35 rfl rfl rfl ?_
            refine Ru_sipush (pc := 160) (nI 2665) dX12_readMaking_160 rfl ?_
            refine Ru_iload_n (pc := 163) dX12_readMaking_163 rfl rfl ?_
            refine Ru_iaddN (pc := 164) dX12_readMaking_164 ?_
            refine Ru_iload (pc := 165) dX12_readMaking_165 rfl ?_
            refine Ru_iast (pc := 167) rfl dX12_readMaking_167 rfl (by omega) ?_
            refine Ru_aload_n (pc := 168) dX12_readMaking_168 rfl rfl ?_
            refine Ru_getR (pc := 169) 5 dX12_readMaking_169 fl_X12_35 rfl rfl rfl ?_
            refine Ru_sipush (pc := 172) (nI 2677) dX12_readMaking_172 rfl ?_
            refine Ru_iload_n (pc := 175) dX12_readMaking_175 rfl rfl ?_
            refine Ru_iaddN (pc := 176) dX12_readMaking_176 ?_
            refine Ru_iload (pc := 177) dX12_readMaking_177 rfl ?_
            refine Ru_iast (pc := 179) rfl dX12_readMaking_179 rfl (by omega) ?_
            refine Ru_aload_n (pc := 180) dX12_readMaking_180 rfl rfl ?_
            refine Ru_getR (pc := 181) 5 dX12_readMaking_181 fl_X12_35 rfl rfl rfl ?_
            refine Ru_sipush (pc := 184) (nI 2601) dX12_readMaking_184 rfl ?_
            refine Ru_dup2 (pc := 187) dX12_readMaking_187 rfl rfl ?_
            refine Ru_iald (pc := 188) dX12_readMaking_188 rfl (by omega) ?_
            refine Ru_top ((r_sI_n (by omega)).trans ((r_sI_n (by omega)).trans ((r_sI_n (by omega)).trans ((r_sI_n (by omega)).trans ((r_sI_n (by omega)).trans (hb49 1 (by decide))))))) ?_
            refine Ru_iconst (pc := 189) (nI 1) dX12_readMaking_189 rfl ?_
            refine Ru_iaddN (pc := 190) dX12_readMaking_190 ?_
            refine Ru_iast (pc := 191) rfl dX12_readMaking_191 rfl (by omega) ?_
            refine Ru_vret (pc := 192) dX12_readMaking_192 rfl ⟨Nat.le_refl _, Nat.le_refl _⟩ ?_
            have eS : mkS T x s = (mk8 T x s).2 := rfl
            refine k _ (r_fx.sI rfl (r_fx.sI rfl (r_fx.sI rfl (r_fx.sI rfl (r_fx.sI rfl (r_fx.sI rfl fx9)))))) ⟨fun j hj => ?_, fun j hj => ?_⟩ ?_ (fun _ => ⟨?_, ?_⟩)
            · refine (r_sI_n (by omega)).trans ?_
              refine (r_sI_n (by omega)).trans ?_
              refine (r_sI_n (by omega)).trans ?_
              refine (r_sI_n (by omega)).trans ?_
              refine (r_sI_n (by omega)).trans ?_
              refine (r_sI_n (by omega)).trans ?_
              exact hc59 j
            · exact hwk9 j (by omega)
            · rw [eS]
              exact (Y_rd_dp T (mk8 T x s).2).kp (F := []) (A := [5]) (r_fx.sI rfl (r_fx.sI rfl (r_fx.sI rfl (r_fx.sI rfl (r_fx.sI rfl (r_fx.sI rfl r_fx.rf)))))) rfl hr9
            · intro j hj
              unfold mkX
              dsimp only
              by_cases a0 : j = 1
              · rw [if_pos a0]
                rw [r_sI_g, if_pos (by omega)]
                try rfl
              · rw [if_neg a0]
                by_cases a1 : j = 29 + x.1 1
                · rw [if_pos a1]
                  refine (r_sI_n (by omega)).trans ?_
                  refine (r_sI_n (by omega)).trans ?_
                  refine (r_sI_n (by omega)).trans ?_
                  refine (r_sI_n (by omega)).trans ?_
                  refine (r_sI_n (by omega)).trans ?_
                  rw [r_sI_g, if_pos (by omega)]
                  try rfl
                · rw [if_neg a1]
                  by_cases a2 : j = 41 + x.1 1
                  · rw [if_pos a2]
                    refine (r_sI_n (by omega)).trans ?_
                    refine (r_sI_n (by omega)).trans ?_
                    refine (r_sI_n (by omega)).trans ?_
                    refine (r_sI_n (by omega)).trans ?_
                    rw [r_sI_g, if_pos (by omega)]
                    try rfl
                  · rw [if_neg a2]
                    by_cases a3 : j = 53 + x.1 1
                    · rw [if_pos a3]
                      refine (r_sI_n (by omega)).trans ?_
                      refine (r_sI_n (by omega)).trans ?_
                      refine (r_sI_n (by omega)).trans ?_
                      rw [r_sI_g, if_pos (by omega)]
                      try rfl
                    · rw [if_neg a3]
                      by_cases a4 : j = 65 + x.1 1
                      · rw [if_pos a4]
                        refine (r_sI_n (by omega)).trans ?_
                        refine (r_sI_n (by omega)).trans ?_
                        rw [r_sI_g, if_pos (by omega)]
                        try rfl
                      · rw [if_neg a4]
                        by_cases a5 : j = 77 + x.1 1
                        · rw [if_pos a5]
                          refine (r_sI_n (by omega)).trans ?_
                          rw [r_sI_g, if_pos (by omega)]
                          try rfl
                        · rw [if_neg a5]
                          refine (r_sI_n (by omega)).trans ?_
                          refine (r_sI_n (by omega)).trans ?_
                          refine (r_sI_n (by omega)).trans ?_
                          refine (r_sI_n (by omega)).trans ?_
                          refine (r_sI_n (by omega)).trans ?_
                          refine (r_sI_n (by omega)).trans ?_
                          exact hb49 j hj
            · exact Y_w4_1 hw4 (by have := hok.2.1; omega) ⟨hLv.1, hLv.2.1⟩ (fun q hq => hwk9 q hq) (hnw9.trans (hv2 hN0).2) ((if_neg (by omega)).trans ((if_neg (by omega)).trans ((if_neg (by omega)).trans ((if_neg (by omega)).trans ((if_neg (by omega)).trans ((if_neg (by omega)).trans (rfl))))))) (if_pos rfl) ((if_neg (by omega)).trans ((if_neg (by omega)).trans ((if_neg (by omega)).trans ((if_neg (by omega)).trans ((if_neg (by omega)).trans ((if_neg (by omega)).trans (rfl))))))) ((if_neg (by omega)).trans ((if_neg (by omega)).trans ((if_neg (by omega)).trans ((if_neg (by omega)).trans ((if_neg (by omega)).trans ((if_neg (by omega)).trans (rfl)))))))
          · exfalso
            omega
        · replace h6 := of_decide_eq_true h6
          refine Ru_aload_n (pc := 102) dX12_readMaking_102 rfl rfl ?_
          refine Ru_iload (pc := 103) dX12_readMaking_103 rfl ?_
          refine Ru_cv1 (pc := 105) dX12_readMaking_105 mv_X12_297 rfl (by decide) (Nat.le_of_ble_eq_true rfl) (c_X12_readThings (s := (mk7 T x s).2) (x := x) (had := (mk7 T x s).1) tw hr9 hb49 (fun k hk => ⟨(hwk9 (104 + k) (by omega)).trans (hw4.1 k hk).1, (hw4.1 k hk).2⟩) hcb.1 (by omega) (by assumption) (by omega) (fun M10 gx10 hr10 => ?_)) 
          have fx10 : r_fx [(0, 12), (0, 13), (0, 14), (0, 15), (0, 16), (0, 17), (0, 18), (0, 21)] [5, 6] M M10 := fx9.tr (gx10.mono rfl)
          have hb10 := hr10.2.2.2.2
          have ht10 := tTok_b (tK T (sRw T x.2 0 (x.1 0) (mk7 T x s).1 136 (801 - ((mk7 T x s).2.1 + 1)) 0 ((mk7 T x s).2.1 + 1, 0)).2.1)
          have hb410 : Y_b4 x.1 M10 := (Y_b4_dp x.1).kp gx10 rfl hb49
          have hwk10 : ∀ q, ¬ q = 104 + 8 + x.1 1 → M10.2.1 6 q = M.2.1 6 q := fun q hq => (gx10 6 q rfl).2.1.trans (hwk9 q hq)
          have hnw10 : M10.2.1 6 (104 + 8 + x.1 1) = M2.2.1 6 (104 + 8 + x.1 1) := (gx10 6 _ rfl).2.1.trans hnw9
          have hc510 : ∀ q, M10.1 5 q = M.1 5 q := fun q => (gx10 5 q rfl).1.trans (hc59 q)
          refine Ru_goto (pc := 108) 112 dX12_readMaking_108 (by decide) ?_
          have emk8 : (mk8 T x s) = (sRw T x.2 0 (x.1 0) (mk7 T x s).1 136 (801 - ((mk7 T x s).2.1 + 1)) 0 ((mk7 T x s).2.1 + 1, 0)) := if_pos ⟨by assumption, by assumption⟩
          refine Ru_top (show nI (sRw T x.2 0 (x.1 0) (mk7 T x s).1 136 (801 - ((mk7 T x s).2.1 + 1)) 0 ((mk7 T x s).2.1 + 1, 0)).1 = nI (mk8 T x s).1 from by rw [emk8]) ?_
          have hr10 : Y_rd T (mk8 T x s).2 M10 := by rw [emk8]; exact hr10
          have hb10 := hr10.2.2.2.2
          have ht10 := tTok_b (tK T (mk8 T x s).2.1)
          have ltmk8 : (mk8 T x s).1 < 2 ^ x.1 0 := sOpt_lt
          refine Ru_istore (pc := 112) dX12_readMaking_112 rfl (by decide) ?_
          refine Ru_aload_n (pc := 114) dX12_readMaking_114 rfl rfl ?_
          refine Ru_getI (pc := 115) dX12_readMaking_115 fl_X12_251 rfl rfl ?_
          refine Ru_top hr10.2.2.1 ?_
          refine Ru_if_leN (pc := 118) 122 dX12_readMaking_118 (by decide) (by omega) (fun h8 => ?_) (fun h8 => ?_)
          · have z8 : (mk8 T x s).2.2 = 0 := by assumption
            have z7 : (mk7 T x s).2.2 = 0 := sOpt_0 z8
            have z6 : (mk6 T x s).2 = 0 := sOpt_0 z7
            have z5 : (mk5 T x s).2 = 0 := sCount_0 z6
            have z4 : (mk4 T x s).2 = 0 := sMust_0 z5
            have z3 : (mk3 T x s).2 = 0 := sCount_0 z4
            have z2 : (mk2 T x s).2 = 0 := sMust_0 z3
            have z1o : (sOld T x.2 0 (x.1 0) (mk1 T x s)).2 = 0 := sNext_0 z2
            have z1 : (mk1 T x s).2 = 0 := sOld_0 z1o
            have hN0 : (sNew T 1 12 x s).2 = 0 := sMust_0 z1
            have hok := sNew_ok hN0
            have hLv := tL_v tw (Or.inl hok.2.2.1)
            have ev1 := (hv2 hN0).1
            subst ev1
            have ev2 : v4 = nI (fN x.2 (tL T (mk1 T x s).1) 0 (x.1 0) - 1) := hv4 z1o
            subst ev2
            have ev3 : v7 = nI (tV T (mk3 T x s).1) := hv7 z4
            subst ev3
            have ev4 : v9 = nI (tV T (mk5 T x s).1) := hv9 z6
            subst ev4
            refine Ru_aload_n (pc := 122) dX12_readMaking_122 rfl rfl ?_
            refine Ru_getR (pc := 123) 5 dX12_readMaking_123 fl_X12_35 rfl rfl rfl ?_
            refine Ru_sipush (pc := 126) (nI 2629) dX12_readMaking_126 rfl ?_
            refine Ru_iload_n (pc := 129) dX12_readMaking_129 rfl rfl ?_
            refine Ru_iaddN (pc := 130) dX12_readMaking_130 ?_
            refine Ru_iload_n (pc := 131) dX12_readMaking_131 rfl rfl ?_
            refine Ru_iast (pc := 132) rfl dX12_readMaking_132 rfl (by omega) ?_
            refine Ru_aload_n (pc := 133) dX12_readMaking_133 rfl rfl ?_
            refine Ru_getR (pc := 134) 5 dX12_readMaking_134 fl_X12_35 rfl rfl rfl ?_
            refine Ru_sipush (pc := 137) (nI 2641) dX12_readMaking_137 rfl ?_
            refine Ru_iload_n (pc := 140) dX12_readMaking_140 rfl rfl ?_
            refine Ru_iaddN (pc := 141) dX12_readMaking_141 ?_
            refine Ru_iload_n (pc := 142) dX12_readMaking_142 rfl rfl ?_
            refine Ru_iast (pc := 143) rfl dX12_readMaking_143 rfl (by omega) ?_
            refine Ru_aload_n (pc := 144) dX12_readMaking_144 rfl rfl ?_
            refine Ru_getR (pc := 145) 5 dX12_readMaking_145 fl_X12_35 rfl rfl rfl ?_
            refine Ru_sipush (pc := 148) (nI 2653) dX12_readMaking_148 rfl ?_
            refine Ru_iload_n (pc := 151) dX12_readMaking_151 rfl rfl ?_
            refine Ru_iaddN (pc := 152) dX12_readMaking_152 ?_
            refine Ru_iload (pc := 153) dX12_readMaking_153 rfl ?_
            refine Ru_iast (pc := 155) rfl dX12_readMaking_155 rfl (by omega) ?_
            refine Ru_aload_n (pc := 156) dX12_readMaking_156 rfl rfl ?_
            refine Ru_getR (pc := 157) 5 dX12_readMaking_157 fl_X12_35 rfl rfl rfl ?_
            refine Ru_sipush (pc := 160) (nI 2665) dX12_readMaking_160 rfl ?_
            refine Ru_iload_n (pc := 163) dX12_readMaking_163 rfl rfl ?_
            refine Ru_iaddN (pc := 164) dX12_readMaking_164 ?_
            refine Ru_iload (pc := 165) dX12_readMaking_165 rfl ?_
            refine Ru_iast (pc := 167) rfl dX12_readMaking_167 rfl (by omega) ?_
            refine Ru_aload_n (pc := 168) dX12_readMaking_168 rfl rfl ?_
            refine Ru_getR (pc := 169) 5 dX12_readMaking_169 fl_X12_35 rfl rfl rfl ?_
            refine Ru_sipush (pc := 172) (nI 2677) dX12_readMaking_172 rfl ?_
            refine Ru_iload_n (pc := 175) dX12_readMaking_175 rfl rfl ?_
            refine Ru_iaddN (pc := 176) dX12_readMaking_176 ?_
            refine Ru_iload (pc := 177) dX12_readMaking_177 rfl ?_
            refine Ru_iast (pc := 179) rfl dX12_readMaking_179 rfl (by omega) ?_
            refine Ru_aload_n (pc := 180) dX12_readMaking_180 rfl rfl ?_
            refine Ru_getR (pc := 181) 5 dX12_readMaking_181 fl_X12_35 rfl rfl rfl ?_
            refine Ru_sipush (pc := 184) (nI 2601) dX12_readMaking_184 rfl ?_
            refine Ru_dup2 (pc := 187) dX12_readMaking_187 rfl rfl ?_
            refine Ru_iald (pc := 188) dX12_readMaking_188 rfl (by omega) ?_
            refine Ru_top ((r_sI_n (by omega)).trans ((r_sI_n (by omega)).trans ((r_sI_n (by omega)).trans ((r_sI_n (by omega)).trans ((r_sI_n (by omega)).trans (hb410 1 (by decide))))))) ?_
            refine Ru_iconst (pc := 189) (nI 1) dX12_readMaking_189 rfl ?_
            refine Ru_iaddN (pc := 190) dX12_readMaking_190 ?_
            refine Ru_iast (pc := 191) rfl dX12_readMaking_191 rfl (by omega) ?_
            refine Ru_vret (pc := 192) dX12_readMaking_192 rfl ⟨Nat.le_refl _, Nat.le_refl _⟩ ?_
            have eS : mkS T x s = (mk8 T x s).2 := rfl
            refine k _ (r_fx.sI rfl (r_fx.sI rfl (r_fx.sI rfl (r_fx.sI rfl (r_fx.sI rfl (r_fx.sI rfl fx10)))))) ⟨fun j hj => ?_, fun j hj => ?_⟩ ?_ (fun _ => ⟨?_, ?_⟩)
            · refine (r_sI_n (by omega)).trans ?_
              refine (r_sI_n (by omega)).trans ?_
              refine (r_sI_n (by omega)).trans ?_
              refine (r_sI_n (by omega)).trans ?_
              refine (r_sI_n (by omega)).trans ?_
              refine (r_sI_n (by omega)).trans ?_
              exact hc510 j
            · exact hwk10 j (by omega)
            · rw [eS]
              exact (Y_rd_dp T (mk8 T x s).2).kp (F := []) (A := [5]) (r_fx.sI rfl (r_fx.sI rfl (r_fx.sI rfl (r_fx.sI rfl (r_fx.sI rfl (r_fx.sI rfl r_fx.rf)))))) rfl hr10
            · intro j hj
              unfold mkX
              dsimp only
              by_cases a0 : j = 1
              · rw [if_pos a0]
                rw [r_sI_g, if_pos (by omega)]
                try rfl
              · rw [if_neg a0]
                by_cases a1 : j = 29 + x.1 1
                · rw [if_pos a1]
                  refine (r_sI_n (by omega)).trans ?_
                  refine (r_sI_n (by omega)).trans ?_
                  refine (r_sI_n (by omega)).trans ?_
                  refine (r_sI_n (by omega)).trans ?_
                  refine (r_sI_n (by omega)).trans ?_
                  rw [r_sI_g, if_pos (by omega)]
                  try rfl
                · rw [if_neg a1]
                  by_cases a2 : j = 41 + x.1 1
                  · rw [if_pos a2]
                    refine (r_sI_n (by omega)).trans ?_
                    refine (r_sI_n (by omega)).trans ?_
                    refine (r_sI_n (by omega)).trans ?_
                    refine (r_sI_n (by omega)).trans ?_
                    rw [r_sI_g, if_pos (by omega)]
                    try rfl
                  · rw [if_neg a2]
                    by_cases a3 : j = 53 + x.1 1
                    · rw [if_pos a3]
                      refine (r_sI_n (by omega)).trans ?_
                      refine (r_sI_n (by omega)).trans ?_
                      refine (r_sI_n (by omega)).trans ?_
                      rw [r_sI_g, if_pos (by omega)]
                      try rfl
                    · rw [if_neg a3]
                      by_cases a4 : j = 65 + x.1 1
                      · rw [if_pos a4]
                        refine (r_sI_n (by omega)).trans ?_
                        refine (r_sI_n (by omega)).trans ?_
                        rw [r_sI_g, if_pos (by omega)]
                        try rfl
                      · rw [if_neg a4]
                        by_cases a5 : j = 77 + x.1 1
                        · rw [if_pos a5]
                          refine (r_sI_n (by omega)).trans ?_
                          rw [r_sI_g, if_pos (by omega)]
                          try rfl
                        · rw [if_neg a5]
                          refine (r_sI_n (by omega)).trans ?_
                          refine (r_sI_n (by omega)).trans ?_
                          refine (r_sI_n (by omega)).trans ?_
                          refine (r_sI_n (by omega)).trans ?_
                          refine (r_sI_n (by omega)).trans ?_
                          refine (r_sI_n (by omega)).trans ?_
                          exact hb410 j hj
            · exact Y_w4_1 hw4 (by have := hok.2.1; omega) ⟨hLv.1, hLv.2.1⟩ (fun q hq => hwk10 q hq) (hnw10.trans (hv2 hN0).2) ((if_neg (by omega)).trans ((if_neg (by omega)).trans ((if_neg (by omega)).trans ((if_neg (by omega)).trans ((if_neg (by omega)).trans ((if_neg (by omega)).trans (rfl))))))) (if_pos rfl) ((if_neg (by omega)).trans ((if_neg (by omega)).trans ((if_neg (by omega)).trans ((if_neg (by omega)).trans ((if_neg (by omega)).trans ((if_neg (by omega)).trans (rfl))))))) ((if_neg (by omega)).trans ((if_neg (by omega)).trans ((if_neg (by omega)).trans ((if_neg (by omega)).trans ((if_neg (by omega)).trans ((if_neg (by omega)).trans (rfl)))))))
          · refine Ru_vret (pc := 121) dX12_readMaking_121 rfl ⟨Nat.le_refl _, Nat.le_refl _⟩ ?_
            have eS : mkS T x s = (mk8 T x s).2 := rfl
            refine k M10 (fx10.mono rfl) ⟨fun j _ => hc510 j, fun j hj => hwk10 j (by omega)⟩ (by rw [eS]; exact hr10) (fun z => ?_)
            exfalso
            rw [eS] at z
            first | exact absurd z (by assumption) | omega
    · replace h4 := of_decide_eq_true h4
      refine Ru_aload_n (pc := 77) dX12_readMaking_77 rfl rfl ?_
      refine Ru_iconst (pc := 78) (nI 0) dX12_readMaking_78 rfl ?_
      refine Ru_cv1 (pc := 79) dX12_readMaking_79 mv_X12_297 rfl (by decide) (Nat.le_of_ble_eq_true rfl) (c_X12_readThings (s := (mk6 T x s)) (x := x) (had := 0) tw hr9 hb49 (fun k hk => ⟨(hwk9 (104 + k) (by omega)).trans (hw4.1 k hk).1, (hw4.1 k hk).2⟩) hcb.1 (by omega) (by assumption) (by omega) (fun M10 gx10 hr10 => ?_)) 
      have fx10 : r_fx [(0, 12), (0, 13), (0, 14), (0, 15), (0, 16), (0, 17), (0, 18), (0, 21)] [5, 6] M M10 := fx9.tr (gx10.mono rfl)
      have hb10 := hr10.2.2.2.2
      have ht10 := tTok_b (tK T (sRw T x.2 0 (x.1 0) 0 136 (801 - ((mk6 T x s).1 + 1)) 0 ((mk6 T x s).1 + 1, 0)).2.1)
      have hb410 : Y_b4 x.1 M10 := (Y_b4_dp x.1).kp gx10 rfl hb49
      have hwk10 : ∀ q, ¬ q = 104 + 8 + x.1 1 → M10.2.1 6 q = M.2.1 6 q := fun q hq => (gx10 6 q rfl).2.1.trans (hwk9 q hq)
      have hnw10 : M10.2.1 6 (104 + 8 + x.1 1) = M2.2.1 6 (104 + 8 + x.1 1) := (gx10 6 _ rfl).2.1.trans hnw9
      have hc510 : ∀ q, M10.1 5 q = M.1 5 q := fun q => (gx10 5 q rfl).1.trans (hc59 q)
      refine Ru_goto (pc := 82) 86 dX12_readMaking_82 (by decide) ?_
      have emk7 : (mk7 T x s) = (sRw T x.2 0 (x.1 0) 0 136 (801 - ((mk6 T x s).1 + 1)) 0 ((mk6 T x s).1 + 1, 0)) := if_pos ⟨by assumption, by assumption⟩
      refine Ru_top (show nI (sRw T x.2 0 (x.1 0) 0 136 (801 - ((mk6 T x s).1 + 1)) 0 ((mk6 T x s).1 + 1, 0)).1 = nI (mk7 T x s).1 from by rw [emk7]) ?_
      have hr10 : Y_rd T (mk7 T x s).2 M10 := by rw [emk7]; exact hr10
      have hb10 := hr10.2.2.2.2
      have ht10 := tTok_b (tK T (mk7 T x s).2.1)
      have ltmk7 : (mk7 T x s).1 < 2 ^ x.1 0 := sOpt_lt
      refine Ru_istore (pc := 86) dX12_readMaking_86 rfl (by decide) ?_
      refine Ru_aload_n (pc := 88) dX12_readMaking_88 rfl rfl ?_
      refine Ru_getI (pc := 89) dX12_readMaking_89 fl_X12_251 rfl rfl ?_
      refine Ru_top hr10.2.2.1 ?_
      refine Ru_if_neN (pc := 92) 111 dX12_readMaking_92 (by decide) (by omega) (fun h9 => ?_) (fun h9 => ?_)
      · refine Ru_iconst (pc := 111) (nI 0) dX12_readMaking_111 rfl ?_
        have emk8 : (mk8 T x s) = (0, (mk7 T x s).2) := if_neg (by
            rintro ⟨y1, y2⟩
            first | exact absurd y2 (by assumption) | omega)
        refine Ru_top (show nI 0 = nI (mk8 T x s).1 from by rw [emk8]) ?_
        have hr10 : Y_rd T (mk8 T x s).2 M10 := by rw [emk8]; exact hr10
        have hb10 := hr10.2.2.2.2
        have ht10 := tTok_b (tK T (mk8 T x s).2.1)
        have ltmk8 : (mk8 T x s).1 < 2 ^ x.1 0 := sOpt_lt
        have zmk8 : ¬ (mk8 T x s).2.2 = 0 := by rw [emk8]; show ¬ (mk7 T x s).2.2 = 0; omega
        refine Ru_istore (pc := 112) dX12_readMaking_112 rfl (by decide) ?_
        refine Ru_aload_n (pc := 114) dX12_readMaking_114 rfl rfl ?_
        refine Ru_getI (pc := 115) dX12_readMaking_115 fl_X12_251 rfl rfl ?_
        refine Ru_top hr10.2.2.1 ?_
        refine Ru_if_leN (pc := 118) 122 dX12_readMaking_118 (by decide) (by omega) (fun h10 => ?_) (fun h10 => ?_)
        · exfalso
          omega
        · refine Ru_vret (pc := 121) dX12_readMaking_121 rfl ⟨Nat.le_refl _, Nat.le_refl _⟩ ?_
          have eS : mkS T x s = (mk8 T x s).2 := rfl
          refine k M10 (fx10.mono rfl) ⟨fun j _ => hc510 j, fun j hj => hwk10 j (by omega)⟩ (by rw [eS]; exact hr10) (fun z => ?_)
          exfalso
          rw [eS] at z
          first | exact absurd z (by assumption) | omega
      · refine Ru_aload_n (pc := 95) dX12_readMaking_95 rfl rfl ?_
        refine Ru_cv0 (pc := 96) dX12_readMaking_96 mv_X12_197 rfl (by decide) (Nat.le_of_ble_eq_true rfl) (c_X12_isWith (i := (mk7 T x s).2.1) tw hr10.2.1 ?_) 
        refine Ru_if_eqB (pc := 99) 111 dX12_readMaking_99 (by decide) (fun h11 => ?_) (fun h11 => ?_)
        · replace h11 := of_decide_eq_false h11
          refine Ru_iconst (pc := 111) (nI 0) dX12_readMaking_111 rfl ?_
          have emk8 : (mk8 T x s) = (0, (mk7 T x s).2) := if_neg (by
              rintro ⟨y1, y2⟩
              first | exact absurd y2 (by assumption) | omega)
          refine Ru_top (show nI 0 = nI (mk8 T x s).1 from by rw [emk8]) ?_
          have hr10 : Y_rd T (mk8 T x s).2 M10 := by rw [emk8]; exact hr10
          have hb10 := hr10.2.2.2.2
          have ht10 := tTok_b (tK T (mk8 T x s).2.1)
          have ltmk8 : (mk8 T x s).1 < 2 ^ x.1 0 := sOpt_lt
          have zmk8 : (mk8 T x s).2.2 = 0 := by rw [emk8]; show (mk7 T x s).2.2 = 0; omega
          refine Ru_istore (pc := 112) dX12_readMaking_112 rfl (by decide) ?_
          refine Ru_aload_n (pc := 114) dX12_readMaking_114 rfl rfl ?_
          refine Ru_getI (pc := 115) dX12_readMaking_115 fl_X12_251 rfl rfl ?_
          refine Ru_top hr10.2.2.1 ?_
          refine Ru_if_leN (pc := 118) 122 dX12_readMaking_118 (by decide) (by omega) (fun h12 => ?_) (fun h12 => ?_)
          · have z8 : (mk8 T x s).2.2 = 0 := by assumption
            have z7 : (mk7 T x s).2.2 = 0 := sOpt_0 z8
            have z6 : (mk6 T x s).2 = 0 := sOpt_0 z7
            have z5 : (mk5 T x s).2 = 0 := sCount_0 z6
            have z4 : (mk4 T x s).2 = 0 := sMust_0 z5
            have z3 : (mk3 T x s).2 = 0 := sCount_0 z4
            have z2 : (mk2 T x s).2 = 0 := sMust_0 z3
            have z1o : (sOld T x.2 0 (x.1 0) (mk1 T x s)).2 = 0 := sNext_0 z2
            have z1 : (mk1 T x s).2 = 0 := sOld_0 z1o
            have hN0 : (sNew T 1 12 x s).2 = 0 := sMust_0 z1
            have hok := sNew_ok hN0
            have hLv := tL_v tw (Or.inl hok.2.2.1)
            have ev1 := (hv2 hN0).1
            subst ev1
            have ev2 : v4 = nI (fN x.2 (tL T (mk1 T x s).1) 0 (x.1 0) - 1) := hv4 z1o
            subst ev2
            have ev3 : v7 = nI (tV T (mk3 T x s).1) := hv7 z4
            subst ev3
            have ev4 : v9 = nI (tV T (mk5 T x s).1) := hv9 z6
            subst ev4
            refine Ru_aload_n (pc := 122) dX12_readMaking_122 rfl rfl ?_
            refine Ru_getR (pc := 123) 5 dX12_readMaking_123 fl_X12_35 rfl rfl rfl ?_
            refine Ru_sipush (pc := 126) (nI 2629) dX12_readMaking_126 rfl ?_
            refine Ru_iload_n (pc := 129) dX12_readMaking_129 rfl rfl ?_
            refine Ru_iaddN (pc := 130) dX12_readMaking_130 ?_
            refine Ru_iload_n (pc := 131) dX12_readMaking_131 rfl rfl ?_
            refine Ru_iast (pc := 132) rfl dX12_readMaking_132 rfl (by omega) ?_
            refine Ru_aload_n (pc := 133) dX12_readMaking_133 rfl rfl ?_
            refine Ru_getR (pc := 134) 5 dX12_readMaking_134 fl_X12_35 rfl rfl rfl ?_
            refine Ru_sipush (pc := 137) (nI 2641) dX12_readMaking_137 rfl ?_
            refine Ru_iload_n (pc := 140) dX12_readMaking_140 rfl rfl ?_
            refine Ru_iaddN (pc := 141) dX12_readMaking_141 ?_
            refine Ru_iload_n (pc := 142) dX12_readMaking_142 rfl rfl ?_
            refine Ru_iast (pc := 143) rfl dX12_readMaking_143 rfl (by omega) ?_
            refine Ru_aload_n (pc := 144) dX12_readMaking_144 rfl rfl ?_
            refine Ru_getR (pc := 145) 5 dX12_readMaking_145 fl_X12_35 rfl rfl rfl ?_
            refine Ru_sipush (pc := 148) (nI 2653) dX12_readMaking_148 rfl ?_
            refine Ru_iload_n (pc := 151) dX12_readMaking_151 rfl rfl ?_
            refine Ru_iaddN (pc := 152) dX12_readMaking_152 ?_
            refine Ru_iload (pc := 153) dX12_readMaking_153 rfl ?_
            refine Ru_iast (pc := 155) rfl dX12_readMaking_155 rfl (by omega) ?_
            refine Ru_aload_n (pc := 156) dX12_readMaking_156 rfl rfl ?_
            refine Ru_getR (pc := 157) 5 dX12_readMaking_157 fl_X12_35 rfl rfl rfl ?_
            refine Ru_sipush (pc := 160) (nI 2665) dX12_readMaking_160 rfl ?_
            refine Ru_iload_n (pc := 163) dX12_readMaking_163 rfl rfl ?_
            refine Ru_iaddN (pc := 164) dX12_readMaking_164 ?_
            refine Ru_iload (pc := 165) dX12_readMaking_165 rfl ?_
            refine Ru_iast (pc := 167) rfl dX12_readMaking_167 rfl (by omega) ?_
            refine Ru_aload_n (pc := 168) dX12_readMaking_168 rfl rfl ?_
            refine Ru_getR (pc := 169) 5 dX12_readMaking_169 fl_X12_35 rfl rfl rfl ?_
            refine Ru_sipush (pc := 172) (nI 2677) dX12_readMaking_172 rfl ?_
            refine Ru_iload_n (pc := 175) dX12_readMaking_175 rfl rfl ?_
            refine Ru_iaddN (pc := 176) dX12_readMaking_176 ?_
            refine Ru_iload (pc := 177) dX12_readMaking_177 rfl ?_
            refine Ru_iast (pc := 179) rfl dX12_readMaking_179 rfl (by omega) ?_
            refine Ru_aload_n (pc := 180) dX12_readMaking_180 rfl rfl ?_
            refine Ru_getR (pc := 181) 5 dX12_readMaking_181 fl_X12_35 rfl rfl rfl ?_
            refine Ru_sipush (pc := 184) (nI 2601) dX12_readMaking_184 rfl ?_
            refine Ru_dup2 (pc := 187) dX12_readMaking_187 rfl rfl ?_
            refine Ru_iald (pc := 188) dX12_readMaking_188 rfl (by omega) ?_
            refine Ru_top ((r_sI_n (by omega)).trans ((r_sI_n (by omega)).trans ((r_sI_n (by omega)).trans ((r_sI_n (by omega)).trans ((r_sI_n (by omega)).trans (hb410 1 (by decide))))))) ?_
            refine Ru_iconst (pc := 189) (nI 1) dX12_readMaking_189 rfl ?_
            refine Ru_iaddN (pc := 190) dX12_readMaking_190 ?_
            refine Ru_iast (pc := 191) rfl dX12_readMaking_191 rfl (by omega) ?_
            refine Ru_vret (pc := 192) dX12_readMaking_192 rfl ⟨Nat.le_refl _, Nat.le_refl _⟩ ?_
            have eS : mkS T x s = (mk8 T x s).2 := rfl
            refine k _ (r_fx.sI rfl (r_fx.sI rfl (r_fx.sI rfl (r_fx.sI rfl (r_fx.sI rfl (r_fx.sI rfl fx10)))))) ⟨fun j hj => ?_, fun j hj => ?_⟩ ?_ (fun _ => ⟨?_, ?_⟩)
            · refine (r_sI_n (by omega)).trans ?_
              refine (r_sI_n (by omega)).trans ?_
              refine (r_sI_n (by omega)).trans ?_
              refine (r_sI_n (by omega)).trans ?_
              refine (r_sI_n (by omega)).trans ?_
              refine (r_sI_n (by omega)).trans ?_
              exact hc510 j
            · exact hwk10 j (by omega)
            · rw [eS]
              exact (Y_rd_dp T (mk8 T x s).2).kp (F := []) (A := [5]) (r_fx.sI rfl (r_fx.sI rfl (r_fx.sI rfl (r_fx.sI rfl (r_fx.sI rfl (r_fx.sI rfl r_fx.rf)))))) rfl hr10
            · intro j hj
              unfold mkX
              dsimp only
              by_cases a0 : j = 1
              · rw [if_pos a0]
                rw [r_sI_g, if_pos (by omega)]
                try rfl
              · rw [if_neg a0]
                by_cases a1 : j = 29 + x.1 1
                · rw [if_pos a1]
                  refine (r_sI_n (by omega)).trans ?_
                  refine (r_sI_n (by omega)).trans ?_
                  refine (r_sI_n (by omega)).trans ?_
                  refine (r_sI_n (by omega)).trans ?_
                  refine (r_sI_n (by omega)).trans ?_
                  rw [r_sI_g, if_pos (by omega)]
                  try rfl
                · rw [if_neg a1]
                  by_cases a2 : j = 41 + x.1 1
                  · rw [if_pos a2]
                    refine (r_sI_n (by omega)).trans ?_
                    refine (r_sI_n (by omega)).trans ?_
                    refine (r_sI_n (by omega)).trans ?_
                    refine (r_sI_n (by omega)).trans ?_
                    rw [r_sI_g, if_pos (by omega)]
                    try rfl
                  · rw [if_neg a2]
                    by_cases a3 : j = 53 + x.1 1
                    · rw [if_pos a3]
                      refine (r_sI_n (by omega)).trans ?_
                      refine (r_sI_n (by omega)).trans ?_
                      refine (r_sI_n (by omega)).trans ?_
                      rw [r_sI_g, if_pos (by omega)]
                      try rfl
                    · rw [if_neg a3]
                      by_cases a4 : j = 65 + x.1 1
                      · rw [if_pos a4]
                        refine (r_sI_n (by omega)).trans ?_
                        refine (r_sI_n (by omega)).trans ?_
                        rw [r_sI_g, if_pos (by omega)]
                        try rfl
                      · rw [if_neg a4]
                        by_cases a5 : j = 77 + x.1 1
                        · rw [if_pos a5]
                          refine (r_sI_n (by omega)).trans ?_
                          rw [r_sI_g, if_pos (by omega)]
                          try rfl
                        · rw [if_neg a5]
                          refine (r_sI_n (by omega)).trans ?_
                          refine (r_sI_n (by omega)).trans ?_
                          refine (r_sI_n (by omega)).trans ?_
                          refine (r_sI_n (by omega)).trans ?_
                          refine (r_sI_n (by omega)).trans ?_
                          refine (r_sI_n (by omega)).trans ?_
                          exact hb410 j hj
            · exact Y_w4_1 hw4 (by have := hok.2.1; omega) ⟨hLv.1, hLv.2.1⟩ (fun q hq => hwk10 q hq) (hnw10.trans (hv2 hN0).2) ((if_neg (by omega)).trans ((if_neg (by omega)).trans ((if_neg (by omega)).trans ((if_neg (by omega)).trans ((if_neg (by omega)).trans ((if_neg (by omega)).trans (rfl))))))) (if_pos rfl) ((if_neg (by omega)).trans ((if_neg (by omega)).trans ((if_neg (by omega)).trans ((if_neg (by omega)).trans ((if_neg (by omega)).trans ((if_neg (by omega)).trans (rfl))))))) ((if_neg (by omega)).trans ((if_neg (by omega)).trans ((if_neg (by omega)).trans ((if_neg (by omega)).trans ((if_neg (by omega)).trans ((if_neg (by omega)).trans (rfl)))))))
          · exfalso
            omega
        · replace h11 := of_decide_eq_true h11
          refine Ru_aload_n (pc := 102) dX12_readMaking_102 rfl rfl ?_
          refine Ru_iload (pc := 103) dX12_readMaking_103 rfl ?_
          refine Ru_cv1 (pc := 105) dX12_readMaking_105 mv_X12_297 rfl (by decide) (Nat.le_of_ble_eq_true rfl) (c_X12_readThings (s := (mk7 T x s).2) (x := x) (had := (mk7 T x s).1) tw hr10 hb410 (fun k hk => ⟨(hwk10 (104 + k) (by omega)).trans (hw4.1 k hk).1, (hw4.1 k hk).2⟩) hcb.1 (by omega) (by assumption) (by omega) (fun M11 gx11 hr11 => ?_)) 
          have fx11 : r_fx [(0, 12), (0, 13), (0, 14), (0, 15), (0, 16), (0, 17), (0, 18), (0, 21)] [5, 6] M M11 := fx10.tr (gx11.mono rfl)
          have hb11 := hr11.2.2.2.2
          have ht11 := tTok_b (tK T (sRw T x.2 0 (x.1 0) (mk7 T x s).1 136 (801 - ((mk7 T x s).2.1 + 1)) 0 ((mk7 T x s).2.1 + 1, 0)).2.1)
          have hb411 : Y_b4 x.1 M11 := (Y_b4_dp x.1).kp gx11 rfl hb410
          have hwk11 : ∀ q, ¬ q = 104 + 8 + x.1 1 → M11.2.1 6 q = M.2.1 6 q := fun q hq => (gx11 6 q rfl).2.1.trans (hwk10 q hq)
          have hnw11 : M11.2.1 6 (104 + 8 + x.1 1) = M2.2.1 6 (104 + 8 + x.1 1) := (gx11 6 _ rfl).2.1.trans hnw10
          have hc511 : ∀ q, M11.1 5 q = M.1 5 q := fun q => (gx11 5 q rfl).1.trans (hc510 q)
          refine Ru_goto (pc := 108) 112 dX12_readMaking_108 (by decide) ?_
          have emk8 : (mk8 T x s) = (sRw T x.2 0 (x.1 0) (mk7 T x s).1 136 (801 - ((mk7 T x s).2.1 + 1)) 0 ((mk7 T x s).2.1 + 1, 0)) := if_pos ⟨by assumption, by assumption⟩
          refine Ru_top (show nI (sRw T x.2 0 (x.1 0) (mk7 T x s).1 136 (801 - ((mk7 T x s).2.1 + 1)) 0 ((mk7 T x s).2.1 + 1, 0)).1 = nI (mk8 T x s).1 from by rw [emk8]) ?_
          have hr11 : Y_rd T (mk8 T x s).2 M11 := by rw [emk8]; exact hr11
          have hb11 := hr11.2.2.2.2
          have ht11 := tTok_b (tK T (mk8 T x s).2.1)
          have ltmk8 : (mk8 T x s).1 < 2 ^ x.1 0 := sOpt_lt
          refine Ru_istore (pc := 112) dX12_readMaking_112 rfl (by decide) ?_
          refine Ru_aload_n (pc := 114) dX12_readMaking_114 rfl rfl ?_
          refine Ru_getI (pc := 115) dX12_readMaking_115 fl_X12_251 rfl rfl ?_
          refine Ru_top hr11.2.2.1 ?_
          refine Ru_if_leN (pc := 118) 122 dX12_readMaking_118 (by decide) (by omega) (fun h13 => ?_) (fun h13 => ?_)
          · have z8 : (mk8 T x s).2.2 = 0 := by assumption
            have z7 : (mk7 T x s).2.2 = 0 := sOpt_0 z8
            have z6 : (mk6 T x s).2 = 0 := sOpt_0 z7
            have z5 : (mk5 T x s).2 = 0 := sCount_0 z6
            have z4 : (mk4 T x s).2 = 0 := sMust_0 z5
            have z3 : (mk3 T x s).2 = 0 := sCount_0 z4
            have z2 : (mk2 T x s).2 = 0 := sMust_0 z3
            have z1o : (sOld T x.2 0 (x.1 0) (mk1 T x s)).2 = 0 := sNext_0 z2
            have z1 : (mk1 T x s).2 = 0 := sOld_0 z1o
            have hN0 : (sNew T 1 12 x s).2 = 0 := sMust_0 z1
            have hok := sNew_ok hN0
            have hLv := tL_v tw (Or.inl hok.2.2.1)
            have ev1 := (hv2 hN0).1
            subst ev1
            have ev2 : v4 = nI (fN x.2 (tL T (mk1 T x s).1) 0 (x.1 0) - 1) := hv4 z1o
            subst ev2
            have ev3 : v7 = nI (tV T (mk3 T x s).1) := hv7 z4
            subst ev3
            have ev4 : v9 = nI (tV T (mk5 T x s).1) := hv9 z6
            subst ev4
            refine Ru_aload_n (pc := 122) dX12_readMaking_122 rfl rfl ?_
            refine Ru_getR (pc := 123) 5 dX12_readMaking_123 fl_X12_35 rfl rfl rfl ?_
            refine Ru_sipush (pc := 126) (nI 2629) dX12_readMaking_126 rfl ?_
            refine Ru_iload_n (pc := 129) dX12_readMaking_129 rfl rfl ?_
            refine Ru_iaddN (pc := 130) dX12_readMaking_130 ?_
            refine Ru_iload_n (pc := 131) dX12_readMaking_131 rfl rfl ?_
            refine Ru_iast (pc := 132) rfl dX12_readMaking_132 rfl (by omega) ?_
            refine Ru_aload_n (pc := 133) dX12_readMaking_133 rfl rfl ?_
            refine Ru_getR (pc := 134) 5 dX12_readMaking_134 fl_X12_35 rfl rfl rfl ?_
            refine Ru_sipush (pc := 137) (nI 2641) dX12_readMaking_137 rfl ?_
            refine Ru_iload_n (pc := 140) dX12_readMaking_140 rfl rfl ?_
            refine Ru_iaddN (pc := 141) dX12_readMaking_141 ?_
            refine Ru_iload_n (pc := 142) dX12_readMaking_142 rfl rfl ?_
            refine Ru_iast (pc := 143) rfl dX12_readMaking_143 rfl (by omega) ?_
            refine Ru_aload_n (pc := 144) dX12_readMaking_144 rfl rfl ?_
            refine Ru_getR (pc := 145) 5 dX12_readMaking_145 fl_X12_35 rfl rfl rfl ?_
            refine Ru_sipush (pc := 148) (nI 2653) dX12_readMaking_148 rfl ?_
            refine Ru_iload_n (pc := 151) dX12_readMaking_151 rfl rfl ?_
            refine Ru_iaddN (pc := 152) dX12_readMaking_152 ?_
            refine Ru_iload (pc := 153) dX12_readMaking_153 rfl ?_
            refine Ru_iast (pc := 155) rfl dX12_readMaking_155 rfl (by omega) ?_
            refine Ru_aload_n (pc := 156) dX12_readMaking_156 rfl rfl ?_
            refine Ru_getR (pc := 157) 5 dX12_readMaking_157 fl_X12_35 rfl rfl rfl ?_
            refine Ru_sipush (pc := 160) (nI 2665) dX12_readMaking_160 rfl ?_
            refine Ru_iload_n (pc := 163) dX12_readMaking_163 rfl rfl ?_
            refine Ru_iaddN (pc := 164) dX12_readMaking_164 ?_
            refine Ru_iload (pc := 165) dX12_readMaking_165 rfl ?_
            refine Ru_iast (pc := 167) rfl dX12_readMaking_167 rfl (by omega) ?_
            refine Ru_aload_n (pc := 168) dX12_readMaking_168 rfl rfl ?_
            refine Ru_getR (pc := 169) 5 dX12_readMaking_169 fl_X12_35 rfl rfl rfl ?_
            refine Ru_sipush (pc := 172) (nI 2677) dX12_readMaking_172 rfl ?_
            refine Ru_iload_n (pc := 175) dX12_readMaking_175 rfl rfl ?_
            refine Ru_iaddN (pc := 176) dX12_readMaking_176 ?_
            refine Ru_iload (pc := 177) dX12_readMaking_177 rfl ?_
            refine Ru_iast (pc := 179) rfl dX12_readMaking_179 rfl (by omega) ?_
            refine Ru_aload_n (pc := 180) dX12_readMaking_180 rfl rfl ?_
            refine Ru_getR (pc := 181) 5 dX12_readMaking_181 fl_X12_35 rfl rfl rfl ?_
            refine Ru_sipush (pc := 184) (nI 2601) dX12_readMaking_184 rfl ?_
            refine Ru_dup2 (pc := 187) dX12_readMaking_187 rfl rfl ?_
            refine Ru_iald (pc := 188) dX12_readMaking_188 rfl (by omega) ?_
            refine Ru_top ((r_sI_n (by omega)).trans ((r_sI_n (by omega)).trans ((r_sI_n (by omega)).trans ((r_sI_n (by omega)).trans ((r_sI_n (by omega)).trans (hb411 1 (by decide))))))) ?_
            refine Ru_iconst (pc := 189) (nI 1) dX12_readMaking_189 rfl ?_
            refine Ru_iaddN (pc := 190) dX12_readMaking_190 ?_
            refine Ru_iast (pc := 191) rfl dX12_readMaking_191 rfl (by omega) ?_
            refine Ru_vret (pc := 192) dX12_readMaking_192 rfl ⟨Nat.le_refl _, Nat.le_refl _⟩ ?_
            have eS : mkS T x s = (mk8 T x s).2 := rfl
            refine k _ (r_fx.sI rfl (r_fx.sI rfl (r_fx.sI rfl (r_fx.sI rfl (r_fx.sI rfl (r_fx.sI rfl fx11)))))) ⟨fun j hj => ?_, fun j hj => ?_⟩ ?_ (fun _ => ⟨?_, ?_⟩)
            · refine (r_sI_n (by omega)).trans ?_
              refine (r_sI_n (by omega)).trans ?_
              refine (r_sI_n (by omega)).trans ?_
              refine (r_sI_n (by omega)).trans ?_
              refine (r_sI_n (by omega)).trans ?_
              refine (r_sI_n (by omega)).trans ?_
              exact hc511 j
            · exact hwk11 j (by omega)
            · rw [eS]
              exact (Y_rd_dp T (mk8 T x s).2).kp (F := []) (A := [5]) (r_fx.sI rfl (r_fx.sI rfl (r_fx.sI rfl (r_fx.sI rfl (r_fx.sI rfl (r_fx.sI rfl r_fx.rf)))))) rfl hr11
            · intro j hj
              unfold mkX
              dsimp only
              by_cases a0 : j = 1
              · rw [if_pos a0]
                rw [r_sI_g, if_pos (by omega)]
                try rfl
              · rw [if_neg a0]
                by_cases a1 : j = 29 + x.1 1
                · rw [if_pos a1]
                  refine (r_sI_n (by omega)).trans ?_
                  refine (r_sI_n (by omega)).trans ?_
                  refine (r_sI_n (by omega)).trans ?_
                  refine (r_sI_n (by omega)).trans ?_
                  refine (r_sI_n (by omega)).trans ?_
                  rw [r_sI_g, if_pos (by omega)]
                  try rfl
                · rw [if_neg a1]
                  by_cases a2 : j = 41 + x.1 1
                  · rw [if_pos a2]
                    refine (r_sI_n (by omega)).trans ?_
                    refine (r_sI_n (by omega)).trans ?_
                    refine (r_sI_n (by omega)).trans ?_
                    refine (r_sI_n (by omega)).trans ?_
                    rw [r_sI_g, if_pos (by omega)]
                    try rfl
                  · rw [if_neg a2]
                    by_cases a3 : j = 53 + x.1 1
                    · rw [if_pos a3]
                      refine (r_sI_n (by omega)).trans ?_
                      refine (r_sI_n (by omega)).trans ?_
                      refine (r_sI_n (by omega)).trans ?_
                      rw [r_sI_g, if_pos (by omega)]
                      try rfl
                    · rw [if_neg a3]
                      by_cases a4 : j = 65 + x.1 1
                      · rw [if_pos a4]
                        refine (r_sI_n (by omega)).trans ?_
                        refine (r_sI_n (by omega)).trans ?_
                        rw [r_sI_g, if_pos (by omega)]
                        try rfl
                      · rw [if_neg a4]
                        by_cases a5 : j = 77 + x.1 1
                        · rw [if_pos a5]
                          refine (r_sI_n (by omega)).trans ?_
                          rw [r_sI_g, if_pos (by omega)]
                          try rfl
                        · rw [if_neg a5]
                          refine (r_sI_n (by omega)).trans ?_
                          refine (r_sI_n (by omega)).trans ?_
                          refine (r_sI_n (by omega)).trans ?_
                          refine (r_sI_n (by omega)).trans ?_
                          refine (r_sI_n (by omega)).trans ?_
                          refine (r_sI_n (by omega)).trans ?_
                          exact hb411 j hj
            · exact Y_w4_1 hw4 (by have := hok.2.1; omega) ⟨hLv.1, hLv.2.1⟩ (fun q hq => hwk11 q hq) (hnw11.trans (hv2 hN0).2) ((if_neg (by omega)).trans ((if_neg (by omega)).trans ((if_neg (by omega)).trans ((if_neg (by omega)).trans ((if_neg (by omega)).trans ((if_neg (by omega)).trans (rfl))))))) (if_pos rfl) ((if_neg (by omega)).trans ((if_neg (by omega)).trans ((if_neg (by omega)).trans ((if_neg (by omega)).trans ((if_neg (by omega)).trans ((if_neg (by omega)).trans (rfl))))))) ((if_neg (by omega)).trans ((if_neg (by omega)).trans ((if_neg (by omega)).trans ((if_neg (by omega)).trans ((if_neg (by omega)).trans ((if_neg (by omega)).trans (rfl)))))))
          · refine Ru_vret (pc := 121) dX12_readMaking_121 rfl ⟨Nat.le_refl _, Nat.le_refl _⟩ ?_
            have eS : mkS T x s = (mk8 T x s).2 := rfl
            refine k M11 (fx11.mono rfl) ⟨fun j _ => hc511 j, fun j hj => hwk11 j (by omega)⟩ (by rw [eS]; exact hr11) (fun z => ?_)
            exfalso
            rw [eS] at z
            first | exact absurd z (by assumption) | omega

theorem c_X12_readPerson {Q : Rq} {M : Mem} {T : Tx} {s : Ps} (tw : Tw T) (hr : Y_rd T s M) {x : St9} (hb4 : Y_b4 x.1 M) (hw4 : Y_w4 x M) (k : ∀ M', r_fx [(0, 12), (0, 13), (0, 14), (0, 15), (0, 16), (0, 17), (0, 18), (0, 21)] [5, 6] M M' → Y_lo M M' → Y_rd T (peS T x s) M' → ((peS T x s).2 = 0 → Y_b4 (peX T x s).1 M' ∧ Y_w4 (peX T x s) M') → Q none GY M') : Ca 6 mt_X12_readPerson 0 0 [.ref 0] GY M Q := by
  refine Ca_of rfl (Nat.le_of_ble_eq_true rfl) ?_
  have hb0 := hr.2.2.2.2
  have ht0 := tTok_b (tK T s.1)
  have hcb := hw4.2.2.2
  have hp := pw_le hcb.1
  refine Ru_aload_n (pc := 0) dX12_readPerson_0 rfl rfl ?_
  refine Ru_iconst (pc := 1) (nI 2) dX12_readPerson_1 rfl ?_
  refine Ru_bipush (pc := 2) (nI 6) dX12_readPerson_2 rfl ?_
  refine Ru_bipush (pc := 4) (nI 20) dX12_readPerson_4 rfl ?_
  refine Ru_cv3 (pc := 6) dX12_readPerson_6 mv_X12_284 rfl (by decide) (Nat.le_of_ble_eq_true rfl) (c_X12_readNew_2 (s := s) (x := x) tw hr hb4 hw4 (fun M2 v2 gx2 hwk2 hr2 hv2 => ?_)) 
  have fx2 : r_fx [(0, 12), (0, 13), (0, 14), (0, 15), (0, 16), (0, 17), (0, 18), (0, 21)] [5, 6] M M2 := gx2.mono rfl
  have hb2 := hr2.2.2.2.2
  have ht2 := tTok_b (tK T (sNew T 2 6 x s).1)
  have hb42 : Y_b4 x.1 M2 := (Y_b4_dp x.1).kp gx2 rfl hb4
  have hnw2 : M2.2.1 6 (104 + 20 + x.1 2) = M2.2.1 6 (104 + 20 + x.1 2) := rfl
  have hc52 : ∀ q, M2.1 5 q = M.1 5 q := fun q => (gx2 5 q rfl).1
  refine Ru_istore_n (pc := 9) dX12_readPerson_9 rfl rfl (by decide) ?_
  refine Ru_aload_n (pc := 10) dX12_readPerson_10 rfl rfl ?_
  refine Ru_aload_n (pc := 11) dX12_readPerson_11 rfl rfl ?_
  refine Ru_cv0 (pc := 12) dX12_readPerson_12 mv_X12_200 rfl (by decide) (Nat.le_of_ble_eq_true rfl) (c_X12_isFrom (i := (sNew T 2 6 x s).1) tw hr2.2.1 ?_) 
  refine Ru_cv1 (pc := 15) dX12_readPerson_15 mv_X12_290 rfl (by decide) (Nat.le_of_ble_eq_true rfl) (c_X12_must (s := (sNew T 2 6 x s)) (b := (decide (tK T (sNew T 2 6 x s).1 = 138))) tw hr2 (fun M3 gx3 (hr3 : Y_rd T (sMust T (decide (tK T (sNew T 2 6 x s).1 = 138)) (sNew T 2 6 x s)) M3) => ?_)) 
  have fx3 : r_fx [(0, 12), (0, 13), (0, 14), (0, 15), (0, 16), (0, 17), (0, 18), (0, 21)] [5, 6] M M3 := fx2.tr (gx3.mono rfl)
  have hb3 := hr3.2.2.2.2
  have ht3 := tTok_b (tK T (sMust T (decide (tK T (sNew T 2 6 x s).1 = 138)) (sNew T 2 6 x s)).1)
  have hb43 : Y_b4 x.1 M3 := (Y_b4_dp x.1).kp gx3 rfl hb42
  have hwk3 : ∀ q, ¬ q = 104 + 20 + x.1 2 → M3.2.1 6 q = M.2.1 6 q := fun q hq => (gx3 6 q rfl).2.1.trans (hwk2 q hq)
  have hnw3 : M3.2.1 6 (104 + 20 + x.1 2) = M2.2.1 6 (104 + 20 + x.1 2) := (gx3 6 _ rfl).2.1.trans hnw2
  have hc53 : ∀ q, M3.1 5 q = M.1 5 q := fun q => (gx3 5 q rfl).1.trans (hc52 q)
  have hr3 : Y_rd T (pe1 T x s) M3 := hr3
  have hb3 := hr3.2.2.2.2
  have ht3 := tTok_b (tK T (pe1 T x s).1)
  refine Ru_aload_n (pc := 18) dX12_readPerson_18 rfl rfl ?_
  refine Ru_iconst (pc := 19) (nI 0) dX12_readPerson_19 rfl ?_
  refine Ru_bipush (pc := 20) (nI 24) dX12_readPerson_20 rfl ?_
  refine Ru_cv2 (pc := 22) dX12_readPerson_22 mv_X12_294 rfl (by decide) (Nat.le_of_ble_eq_true rfl) (c_X12_count (s := (pe1 T x s)) (lo := 0) (hi := 24) tw hr3 (by decide) (fun M4 v4 gx4 hr4 hv4 => ?_)) 
  have fx4 : r_fx [(0, 12), (0, 13), (0, 14), (0, 15), (0, 16), (0, 17), (0, 18), (0, 21)] [5, 6] M M4 := fx3.tr (gx4.mono rfl)
  have hb4 := hr4.2.2.2.2
  have ht4 := tTok_b (tK T (sCount T 0 24 (pe1 T x s)).1)
  have hb44 : Y_b4 x.1 M4 := (Y_b4_dp x.1).kp gx4 rfl hb43
  have hwk4 : ∀ q, ¬ q = 104 + 20 + x.1 2 → M4.2.1 6 q = M.2.1 6 q := fun q hq => (gx4 6 q rfl).2.1.trans (hwk3 q hq)
  have hnw4 : M4.2.1 6 (104 + 20 + x.1 2) = M2.2.1 6 (104 + 20 + x.1 2) := (gx4 6 _ rfl).2.1.trans hnw3
  have hc54 : ∀ q, M4.1 5 q = M.1 5 q := fun q => (gx4 5 q rfl).1.trans (hc53 q)
  have hr4 : Y_rd T (pe2 T x s) M4 := hr4
  have hb4 := hr4.2.2.2.2
  have ht4 := tTok_b (tK T (pe2 T x s).1)
  refine Ru_istore_n (pc := 25) dX12_readPerson_25 rfl rfl (by decide) ?_
  refine Ru_aload_n (pc := 26) dX12_readPerson_26 rfl rfl ?_
  refine Ru_aload_n (pc := 27) dX12_readPerson_27 rfl rfl ?_
  refine Ru_cv0 (pc := 28) dX12_readPerson_28 mv_X12_203 rfl (by decide) (Nat.le_of_ble_eq_true rfl) (c_X12_isTo (i := (pe2 T x s).1) tw hr4.2.1 ?_) 
  refine Ru_cv1 (pc := 31) dX12_readPerson_31 mv_X12_290 rfl (by decide) (Nat.le_of_ble_eq_true rfl) (c_X12_must (s := (pe2 T x s)) (b := (decide (tK T (pe2 T x s).1 = 139))) tw hr4 (fun M5 gx5 (hr5 : Y_rd T (sMust T (decide (tK T (pe2 T x s).1 = 139)) (pe2 T x s)) M5) => ?_)) 
  have fx5 : r_fx [(0, 12), (0, 13), (0, 14), (0, 15), (0, 16), (0, 17), (0, 18), (0, 21)] [5, 6] M M5 := fx4.tr (gx5.mono rfl)
  have hb5 := hr5.2.2.2.2
  have ht5 := tTok_b (tK T (sMust T (decide (tK T (pe2 T x s).1 = 139)) (pe2 T x s)).1)
  have hb45 : Y_b4 x.1 M5 := (Y_b4_dp x.1).kp gx5 rfl hb44
  have hwk5 : ∀ q, ¬ q = 104 + 20 + x.1 2 → M5.2.1 6 q = M.2.1 6 q := fun q hq => (gx5 6 q rfl).2.1.trans (hwk4 q hq)
  have hnw5 : M5.2.1 6 (104 + 20 + x.1 2) = M2.2.1 6 (104 + 20 + x.1 2) := (gx5 6 _ rfl).2.1.trans hnw4
  have hc55 : ∀ q, M5.1 5 q = M.1 5 q := fun q => (gx5 5 q rfl).1.trans (hc54 q)
  have hr5 : Y_rd T (pe3 T x s) M5 := hr5
  have hb5 := hr5.2.2.2.2
  have ht5 := tTok_b (tK T (pe3 T x s).1)
  refine Ru_aload_n (pc := 34) dX12_readPerson_34 rfl rfl ?_
  refine Ru_iconst (pc := 35) (nI 0) dX12_readPerson_35 rfl ?_
  refine Ru_bipush (pc := 36) (nI 24) dX12_readPerson_36 rfl ?_
  refine Ru_cv2 (pc := 38) dX12_readPerson_38 mv_X12_294 rfl (by decide) (Nat.le_of_ble_eq_true rfl) (c_X12_count (s := (pe3 T x s)) (lo := 0) (hi := 24) tw hr5 (by decide) (fun M6 v6 gx6 hr6 hv6 => ?_)) 
  have fx6 : r_fx [(0, 12), (0, 13), (0, 14), (0, 15), (0, 16), (0, 17), (0, 18), (0, 21)] [5, 6] M M6 := fx5.tr (gx6.mono rfl)
  have hb6 := hr6.2.2.2.2
  have ht6 := tTok_b (tK T (sCount T 0 24 (pe3 T x s)).1)
  have hb46 : Y_b4 x.1 M6 := (Y_b4_dp x.1).kp gx6 rfl hb45
  have hwk6 : ∀ q, ¬ q = 104 + 20 + x.1 2 → M6.2.1 6 q = M.2.1 6 q := fun q hq => (gx6 6 q rfl).2.1.trans (hwk5 q hq)
  have hnw6 : M6.2.1 6 (104 + 20 + x.1 2) = M2.2.1 6 (104 + 20 + x.1 2) := (gx6 6 _ rfl).2.1.trans hnw5
  have hc56 : ∀ q, M6.1 5 q = M.1 5 q := fun q => (gx6 5 q rfl).1.trans (hc55 q)
  have hr6 : Y_rd T (pe4 T x s) M6 := hr6
  have hb6 := hr6.2.2.2.2
  have ht6 := tTok_b (tK T (pe4 T x s).1)
  refine Ru_istore_n (pc := 41) dX12_readPerson_41 rfl rfl (by decide) ?_
  refine Ru_iconst (pc := 42) (nI 0) dX12_readPerson_42 rfl ?_
  refine Ru_istore (pc := 43) dX12_readPerson_43 rfl (by decide) ?_
  refine Ru_aload_n (pc := 45) dX12_readPerson_45 rfl rfl ?_
  refine Ru_getI (pc := 46) dX12_readPerson_46 fl_X12_251 rfl rfl ?_
  refine Ru_top hr6.2.2.1 ?_
  refine Ru_if_neN (pc := 49) 72 dX12_readPerson_49 (by decide) (by omega) (fun h1 => ?_) (fun h1 => ?_)
  · have hi1 : ¬ ((pe4 T x s).2 = 0 ∧ tK T (pe4 T x s).1 = 140) := by
      rintro ⟨y1, y2⟩
      first | exact absurd y2 (by assumption) | omega
    have ePS : peS T x s = (pe4 T x s) := if_neg hi1
    have ePI : peI T x s = 0 := if_neg hi1
    have hr6 : Y_rd T (peS T x s) M6 := by rw [ePS]; exact hr6
    have hb6 := hr6.2.2.2.2
    have zzS : ¬ (peS T x s).2 = 0 := by rw [ePS]; omega
    refine Ru_aload_n (pc := 72) dX12_readPerson_72 rfl rfl ?_
    refine Ru_getI (pc := 73) dX12_readPerson_73 fl_X12_251 rfl rfl ?_
    refine Ru_top hr6.2.2.1 ?_
    refine Ru_if_leN (pc := 76) 80 dX12_readPerson_76 (by decide) (by omega) (fun h2 => ?_) (fun h2 => ?_)
    · exfalso
      omega
    · refine Ru_vret (pc := 79) dX12_readPerson_79 rfl ⟨Nat.le_refl _, Nat.le_refl _⟩ ?_
      have eS : peS T x s = peS T x s := rfl
      refine k M6 (fx6.mono rfl) ⟨fun j _ => hc56 j, fun j hj => hwk6 j (by omega)⟩ (by rw [eS]; exact hr6) (fun z => ?_)
      exfalso
      rw [eS] at z
      first | exact absurd z (by assumption) | omega
  · refine Ru_aload_n (pc := 52) dX12_readPerson_52 rfl rfl ?_
    refine Ru_cv0 (pc := 53) dX12_readPerson_53 mv_X12_206 rfl (by decide) (Nat.le_of_ble_eq_true rfl) (c_X12_isIll (i := (pe4 T x s).1) tw hr6.2.1 ?_) 
    refine Ru_if_eqB (pc := 56) 72 dX12_readPerson_56 (by decide) (fun h3 => ?_) (fun h3 => ?_)
    · replace h3 := of_decide_eq_false h3
      have hi1 : ¬ ((pe4 T x s).2 = 0 ∧ tK T (pe4 T x s).1 = 140) := by
        rintro ⟨y1, y2⟩
        first | exact absurd y2 (by assumption) | omega
      have ePS : peS T x s = (pe4 T x s) := if_neg hi1
      have ePI : peI T x s = 0 := if_neg hi1
      have hr6 : Y_rd T (peS T x s) M6 := by rw [ePS]; exact hr6
      have hb6 := hr6.2.2.2.2
      have zzS : (peS T x s).2 = 0 := by rw [ePS]; assumption
      refine Ru_aload_n (pc := 72) dX12_readPerson_72 rfl rfl ?_
      refine Ru_getI (pc := 73) dX12_readPerson_73 fl_X12_251 rfl rfl ?_
      refine Ru_top hr6.2.2.1 ?_
      refine Ru_if_leN (pc := 76) 80 dX12_readPerson_76 (by decide) (by omega) (fun h4 => ?_) (fun h4 => ?_)
      · have zS : (peS T x s).2 = 0 := by assumption
        have z4 : (pe4 T x s).2 = 0 := by
          rw [← ePS]
          exact zS
        have z3 : (pe3 T x s).2 = 0 := sCount_0 z4
        have z2 : (pe2 T x s).2 = 0 := sMust_0 z3
        have z1 : (pe1 T x s).2 = 0 := sCount_0 z2
        have hN0 : (sNew T 2 6 x s).2 = 0 := sMust_0 z1
        have hok := sNew_ok hN0
        have hLv := tL_v tw (Or.inl hok.2.2.1)
        have ev1 := (hv2 hN0).1
        subst ev1
        have ev2 : v4 = nI (tV T (pe1 T x s).1) := hv4 z2
        subst ev2
        have ev3 : v6 = nI (tV T (pe3 T x s).1) := hv6 z4
        subst ev3
        refine Ru_weak (L' := [(0, some (.ref 0)), (1, some (.int (nI (x.1 2)))), (2, some (.int (nI (tV T (pe1 T x s).1)))), (3, some (.int (nI (tV T (pe3 T x s).1)))), (4, some (.int (nI (peI T x s))))]) ?_ (by rw [ePI]; rfl)
        refine Ru_aload_n (pc := 80) dX12_readPerson_80 rfl rfl ?_
        refine Ru_getR (pc := 81) 5 dX12_readPerson_81 fl_X12_35 rfl rfl rfl ?_
        refine Ru_sipush (pc := 84) (nI 2689) dX12_readPerson_84 rfl ?_
        refine Ru_iload_n (pc := 87) dX12_readPerson_87 rfl rfl ?_
        refine Ru_iaddN (pc := 88) dX12_readPerson_88 ?_
        refine Ru_iload_n (pc := 89) dX12_readPerson_89 rfl rfl ?_
        refine Ru_iast (pc := 90) rfl dX12_readPerson_90 rfl (by omega) ?_
        refine Ru_aload_n (pc := 91) dX12_readPerson_91 rfl rfl ?_
        refine Ru_getR (pc := 92) 5 dX12_readPerson_92 fl_X12_35 rfl rfl rfl ?_
        refine Ru_sipush (pc := 95) (nI 2695) dX12_readPerson_95 rfl ?_
        refine Ru_iload_n (pc := 98) dX12_readPerson_98 rfl rfl ?_
        refine Ru_iaddN (pc := 99) dX12_readPerson_99 ?_
        refine Ru_iload_n (pc := 100) dX12_readPerson_100 rfl rfl ?_
        refine Ru_iast (pc := 101) rfl dX12_readPerson_101 rfl (by omega) ?_
        refine Ru_aload_n (pc := 102) dX12_readPerson_102 rfl rfl ?_
        refine Ru_getR (pc := 103) 5 dX12_readPerson_103 fl_X12_35 rfl rfl rfl ?_
        refine Ru_sipush (pc := 106) (nI 2701) dX12_readPerson_106 rfl ?_
        refine Ru_iload_n (pc := 109) dX12_readPerson_109 rfl rfl ?_
        refine Ru_iaddN (pc := 110) dX12_readPerson_110 ?_
        refine Ru_iload (pc := 111) dX12_readPerson_111 rfl ?_
        refine Ru_iast (pc := 113) rfl dX12_readPerson_113 rfl (by omega) ?_
        refine Ru_aload_n (pc := 114) dX12_readPerson_114 rfl rfl ?_
        refine Ru_getR (pc := 115) 5 dX12_readPerson_115 fl_X12_35 rfl rfl rfl ?_
        refine Ru_sipush (pc := 118) (nI 2602) dX12_readPerson_118 rfl ?_
        refine Ru_dup2 (pc := 121) dX12_readPerson_121 rfl rfl ?_
        refine Ru_iald (pc := 122) dX12_readPerson_122 rfl (by omega) ?_
        refine Ru_top ((r_sI_n (by omega)).trans ((r_sI_n (by omega)).trans ((r_sI_n (by omega)).trans (hb46 2 (by decide))))) ?_
        refine Ru_iconst (pc := 123) (nI 1) dX12_readPerson_123 rfl ?_
        refine Ru_iaddN (pc := 124) dX12_readPerson_124 ?_
        refine Ru_iast (pc := 125) rfl dX12_readPerson_125 rfl (by omega) ?_
        refine Ru_vret (pc := 126) dX12_readPerson_126 rfl ⟨Nat.le_refl _, Nat.le_refl _⟩ ?_
        have eS : peS T x s = peS T x s := rfl
        refine k _ (r_fx.sI rfl (r_fx.sI rfl (r_fx.sI rfl (r_fx.sI rfl fx6)))) ⟨fun j hj => ?_, fun j hj => ?_⟩ ?_ (fun _ => ⟨?_, ?_⟩)
        · refine (r_sI_n (by omega)).trans ?_
          refine (r_sI_n (by omega)).trans ?_
          refine (r_sI_n (by omega)).trans ?_
          refine (r_sI_n (by omega)).trans ?_
          exact hc56 j
        · exact hwk6 j (by omega)
        · rw [eS]
          exact (Y_rd_dp T (peS T x s)).kp (F := []) (A := [5]) (r_fx.sI rfl (r_fx.sI rfl (r_fx.sI rfl (r_fx.sI rfl r_fx.rf)))) rfl hr6
        · intro j hj
          unfold peX
          dsimp only
          by_cases a0 : j = 2
          · rw [if_pos a0]
            rw [r_sI_g, if_pos (by omega)]
            try rfl
          · rw [if_neg a0]
            by_cases a1 : j = 89 + x.1 2
            · rw [if_pos a1]
              refine (r_sI_n (by omega)).trans ?_
              refine (r_sI_n (by omega)).trans ?_
              refine (r_sI_n (by omega)).trans ?_
              rw [r_sI_g, if_pos (by omega)]
              try rfl
            · rw [if_neg a1]
              by_cases a2 : j = 95 + x.1 2
              · rw [if_pos a2]
                refine (r_sI_n (by omega)).trans ?_
                refine (r_sI_n (by omega)).trans ?_
                rw [r_sI_g, if_pos (by omega)]
                try rfl
              · rw [if_neg a2]
                by_cases a3 : j = 101 + x.1 2
                · rw [if_pos a3]
                  refine (r_sI_n (by omega)).trans ?_
                  rw [r_sI_g, if_pos (by omega)]
                  try rfl
                · rw [if_neg a3]
                  refine (r_sI_n (by omega)).trans ?_
                  refine (r_sI_n (by omega)).trans ?_
                  refine (r_sI_n (by omega)).trans ?_
                  refine (r_sI_n (by omega)).trans ?_
                  exact hb46 j hj
        · exact Y_w4_2 hw4 (by have := hok.2.1; omega) ⟨hLv.1, hLv.2.1⟩ (fun q hq => hwk6 q hq) (hnw6.trans (hv2 hN0).2) ((if_neg (by omega)).trans ((if_neg (by omega)).trans ((if_neg (by omega)).trans ((if_neg (by omega)).trans (rfl))))) ((if_neg (by omega)).trans ((if_neg (by omega)).trans ((if_neg (by omega)).trans ((if_neg (by omega)).trans (rfl))))) (if_pos rfl) ((if_neg (by omega)).trans ((if_neg (by omega)).trans ((if_neg (by omega)).trans ((if_neg (by omega)).trans (rfl)))))
      · exfalso
        omega
    · replace h3 := of_decide_eq_true h3
      refine Ru_aload_n (pc := 59) dX12_readPerson_59 rfl rfl ?_
      refine Ru_cv0 (pc := 60) dX12_readPerson_60 mv_X12_261 rfl (by decide) (Nat.le_of_ble_eq_true rfl) (c_X12_nextS (s := (pe4 T x s)) tw hr6 (by first | rfl | assumption | omega) (fun M7 gx7 (hr7 : Y_rd T ((pe4 T x s).1 + 1, 0) M7) => ?_)) 
      have fx7 : r_fx [(0, 12), (0, 13), (0, 14), (0, 15), (0, 16), (0, 17), (0, 18), (0, 21)] [5, 6] M M7 := fx6.tr (gx7.mono rfl)
      have hb7 := hr7.2.2.2.2
      have ht7 := tTok_b (tK T ((pe4 T x s).1 + 1))
      have hb47 : Y_b4 x.1 M7 := (Y_b4_dp x.1).kp gx7 rfl hb46
      have hwk7 : ∀ q, ¬ q = 104 + 20 + x.1 2 → M7.2.1 6 q = M.2.1 6 q := fun q hq => (gx7 6 q rfl).2.1.trans (hwk6 q hq)
      have hnw7 : M7.2.1 6 (104 + 20 + x.1 2) = M2.2.1 6 (104 + 20 + x.1 2) := (gx7 6 _ rfl).2.1.trans hnw6
      have hc57 : ∀ q, M7.1 5 q = M.1 5 q := fun q => (gx7 5 q rfl).1.trans (hc56 q)
      refine Ru_aload_n (pc := 63) dX12_readPerson_63 rfl rfl ?_
      refine Ru_iconst (pc := 64) (nI 0) dX12_readPerson_64 rfl ?_
      refine Ru_bipush (pc := 65) (nI 16) dX12_readPerson_65 rfl ?_
      refine Ru_cv2 (pc := 67) dX12_readPerson_67 mv_X12_294 rfl (by decide) (Nat.le_of_ble_eq_true rfl) (c_X12_count (s := ((pe4 T x s).1 + 1, 0)) (lo := 0) (hi := 16) tw hr7 (by decide) (fun M8 v8 gx8 hr8 hv8 => ?_)) 
      have fx8 : r_fx [(0, 12), (0, 13), (0, 14), (0, 15), (0, 16), (0, 17), (0, 18), (0, 21)] [5, 6] M M8 := fx7.tr (gx8.mono rfl)
      have hb8 := hr8.2.2.2.2
      have ht8 := tTok_b (tK T (sCount T 0 16 ((pe4 T x s).1 + 1, 0)).1)
      have hb48 : Y_b4 x.1 M8 := (Y_b4_dp x.1).kp gx8 rfl hb47
      have hwk8 : ∀ q, ¬ q = 104 + 20 + x.1 2 → M8.2.1 6 q = M.2.1 6 q := fun q hq => (gx8 6 q rfl).2.1.trans (hwk7 q hq)
      have hnw8 : M8.2.1 6 (104 + 20 + x.1 2) = M2.2.1 6 (104 + 20 + x.1 2) := (gx8 6 _ rfl).2.1.trans hnw7
      have hc58 : ∀ q, M8.1 5 q = M.1 5 q := fun q => (gx8 5 q rfl).1.trans (hc57 q)
      refine Ru_istore (pc := 70) dX12_readPerson_70 rfl (by decide) ?_
      have hi1 : (pe4 T x s).2 = 0 ∧ tK T (pe4 T x s).1 = 140 := ⟨by assumption, by assumption⟩
      have ePS : peS T x s = (sCount T 0 16 ((pe4 T x s).1 + 1, 0)) := if_pos hi1
      have ePI : peI T x s = tV T ((pe4 T x s).1 + 1) := if_pos hi1
      have zPI : (peS T x s).2 = 0 → v8 = nI (peI T x s) := fun z => by rw [ePI]; exact hv8 (by rw [← ePS]; exact z)
      have hr8 : Y_rd T (peS T x s) M8 := by rw [ePS]; exact hr8
      have hb8 := hr8.2.2.2.2
      refine Ru_aload_n (pc := 72) dX12_readPerson_72 rfl rfl ?_
      refine Ru_getI (pc := 73) dX12_readPerson_73 fl_X12_251 rfl rfl ?_
      refine Ru_top hr8.2.2.1 ?_
      refine Ru_if_leN (pc := 76) 80 dX12_readPerson_76 (by decide) (by omega) (fun h5 => ?_) (fun h5 => ?_)
      · have zS : (peS T x s).2 = 0 := by assumption
        have z4 : (pe4 T x s).2 = 0 := by
          exact hi1.1
        have z3 : (pe3 T x s).2 = 0 := sCount_0 z4
        have z2 : (pe2 T x s).2 = 0 := sMust_0 z3
        have z1 : (pe1 T x s).2 = 0 := sCount_0 z2
        have hN0 : (sNew T 2 6 x s).2 = 0 := sMust_0 z1
        have hok := sNew_ok hN0
        have hLv := tL_v tw (Or.inl hok.2.2.1)
        have ev1 := (hv2 hN0).1
        subst ev1
        have ev2 : v4 = nI (tV T (pe1 T x s).1) := hv4 z2
        subst ev2
        have ev3 : v6 = nI (tV T (pe3 T x s).1) := hv6 z4
        subst ev3
        have ev4 := zPI zS
        subst ev4
        refine Ru_aload_n (pc := 80) dX12_readPerson_80 rfl rfl ?_
        refine Ru_getR (pc := 81) 5 dX12_readPerson_81 fl_X12_35 rfl rfl rfl ?_
        refine Ru_sipush (pc := 84) (nI 2689) dX12_readPerson_84 rfl ?_
        refine Ru_iload_n (pc := 87) dX12_readPerson_87 rfl rfl ?_
        refine Ru_iaddN (pc := 88) dX12_readPerson_88 ?_
        refine Ru_iload_n (pc := 89) dX12_readPerson_89 rfl rfl ?_
        refine Ru_iast (pc := 90) rfl dX12_readPerson_90 rfl (by omega) ?_
        refine Ru_aload_n (pc := 91) dX12_readPerson_91 rfl rfl ?_
        refine Ru_getR (pc := 92) 5 dX12_readPerson_92 fl_X12_35 rfl rfl rfl ?_
        refine Ru_sipush (pc := 95) (nI 2695) dX12_readPerson_95 rfl ?_
        refine Ru_iload_n (pc := 98) dX12_readPerson_98 rfl rfl ?_
        refine Ru_iaddN (pc := 99) dX12_readPerson_99 ?_
        refine Ru_iload_n (pc := 100) dX12_readPerson_100 rfl rfl ?_
        refine Ru_iast (pc := 101) rfl dX12_readPerson_101 rfl (by omega) ?_
        refine Ru_aload_n (pc := 102) dX12_readPerson_102 rfl rfl ?_
        refine Ru_getR (pc := 103) 5 dX12_readPerson_103 fl_X12_35 rfl rfl rfl ?_
        refine Ru_sipush (pc := 106) (nI 2701) dX12_readPerson_106 rfl ?_
        refine Ru_iload_n (pc := 109) dX12_readPerson_109 rfl rfl ?_
        refine Ru_iaddN (pc := 110) dX12_readPerson_110 ?_
        refine Ru_iload (pc := 111) dX12_readPerson_111 rfl ?_
        refine Ru_iast (pc := 113) rfl dX12_readPerson_113 rfl (by omega) ?_
        refine Ru_aload_n (pc := 114) dX12_readPerson_114 rfl rfl ?_
        refine Ru_getR (pc := 115) 5 dX12_readPerson_115 fl_X12_35 rfl rfl rfl ?_
        refine Ru_sipush (pc := 118) (nI 2602) dX12_readPerson_118 rfl ?_
        refine Ru_dup2 (pc := 121) dX12_readPerson_121 rfl rfl ?_
        refine Ru_iald (pc := 122) dX12_readPerson_122 rfl (by omega) ?_
        refine Ru_top ((r_sI_n (by omega)).trans ((r_sI_n (by omega)).trans ((r_sI_n (by omega)).trans (hb48 2 (by decide))))) ?_
        refine Ru_iconst (pc := 123) (nI 1) dX12_readPerson_123 rfl ?_
        refine Ru_iaddN (pc := 124) dX12_readPerson_124 ?_
        refine Ru_iast (pc := 125) rfl dX12_readPerson_125 rfl (by omega) ?_
        refine Ru_vret (pc := 126) dX12_readPerson_126 rfl ⟨Nat.le_refl _, Nat.le_refl _⟩ ?_
        have eS : peS T x s = peS T x s := rfl
        refine k _ (r_fx.sI rfl (r_fx.sI rfl (r_fx.sI rfl (r_fx.sI rfl fx8)))) ⟨fun j hj => ?_, fun j hj => ?_⟩ ?_ (fun _ => ⟨?_, ?_⟩)
        · refine (r_sI_n (by omega)).trans ?_
          refine (r_sI_n (by omega)).trans ?_
          refine (r_sI_n (by omega)).trans ?_
          refine (r_sI_n (by omega)).trans ?_
          exact hc58 j
        · exact hwk8 j (by omega)
        · rw [eS]
          exact (Y_rd_dp T (peS T x s)).kp (F := []) (A := [5]) (r_fx.sI rfl (r_fx.sI rfl (r_fx.sI rfl (r_fx.sI rfl r_fx.rf)))) rfl hr8
        · intro j hj
          unfold peX
          dsimp only
          by_cases a0 : j = 2
          · rw [if_pos a0]
            rw [r_sI_g, if_pos (by omega)]
            try rfl
          · rw [if_neg a0]
            by_cases a1 : j = 89 + x.1 2
            · rw [if_pos a1]
              refine (r_sI_n (by omega)).trans ?_
              refine (r_sI_n (by omega)).trans ?_
              refine (r_sI_n (by omega)).trans ?_
              rw [r_sI_g, if_pos (by omega)]
              try rfl
            · rw [if_neg a1]
              by_cases a2 : j = 95 + x.1 2
              · rw [if_pos a2]
                refine (r_sI_n (by omega)).trans ?_
                refine (r_sI_n (by omega)).trans ?_
                rw [r_sI_g, if_pos (by omega)]
                try rfl
              · rw [if_neg a2]
                by_cases a3 : j = 101 + x.1 2
                · rw [if_pos a3]
                  refine (r_sI_n (by omega)).trans ?_
                  rw [r_sI_g, if_pos (by omega)]
                  try rfl
                · rw [if_neg a3]
                  refine (r_sI_n (by omega)).trans ?_
                  refine (r_sI_n (by omega)).trans ?_
                  refine (r_sI_n (by omega)).trans ?_
                  refine (r_sI_n (by omega)).trans ?_
                  exact hb48 j hj
        · exact Y_w4_2 hw4 (by have := hok.2.1; omega) ⟨hLv.1, hLv.2.1⟩ (fun q hq => hwk8 q hq) (hnw8.trans (hv2 hN0).2) ((if_neg (by omega)).trans ((if_neg (by omega)).trans ((if_neg (by omega)).trans ((if_neg (by omega)).trans (rfl))))) ((if_neg (by omega)).trans ((if_neg (by omega)).trans ((if_neg (by omega)).trans ((if_neg (by omega)).trans (rfl))))) (if_pos rfl) ((if_neg (by omega)).trans ((if_neg (by omega)).trans ((if_neg (by omega)).trans ((if_neg (by omega)).trans (rfl)))))
      · refine Ru_vret (pc := 79) dX12_readPerson_79 rfl ⟨Nat.le_refl _, Nat.le_refl _⟩ ?_
        have eS : peS T x s = peS T x s := rfl
        refine k M8 (fx8.mono rfl) ⟨fun j _ => hc58 j, fun j hj => hwk8 j (by omega)⟩ (by rw [eS]; exact hr8) (fun z => ?_)
        exfalso
        rw [eS] at z
        first | exact absurd z (by assumption) | omega

theorem c_X12_readWant {Q : Rq} {M : Mem} {T : Tx} {s : Ps} (tw : Tw T) (hr : Y_rd T s M) {x : St9} (hb4 : Y_b4 x.1 M) (hw4 : Y_w4 x M) (k : ∀ M', r_fx [(0, 12), (0, 13), (0, 14), (0, 15), (0, 16), (0, 17), (0, 18), (0, 21)] [5, 6] M M' → Y_lo M M' → Y_rd T (waS T x s) M' → ((waS T x s).2 = 0 → Y_b4 (waX T x s).1 M' ∧ Y_w4 (waX T x s) M') → Q none GY M') : Ca 6 mt_X12_readWant 0 0 [.ref 0] GY M Q := by
  refine Ca_of rfl (Nat.le_of_ble_eq_true rfl) ?_
  have hb0 := hr.2.2.2.2
  have ht0 := tTok_b (tK T s.1)
  have hcb := hw4.2.2.2
  have hp := pw_le hcb.1
  have hwk : ∀ q, ¬ q = 999 → M.2.1 6 q = M.2.1 6 q := fun _ _ => rfl
  have hc5 : ∀ q, M.1 5 q = M.1 5 q := fun _ => rfl
  refine Ru_aload_n (pc := 0) dX12_readWant_0 rfl rfl ?_
  refine Ru_getR (pc := 1) 5 dX12_readWant_1 fl_X12_35 rfl rfl rfl ?_
  refine Ru_sipush (pc := 4) (nI 2603) dX12_readWant_4 rfl ?_
  refine Ru_iald (pc := 7) dX12_readWant_7 rfl (by omega) ?_
  refine Ru_top (hb4 3 (by decide)) ?_
  refine Ru_istore_n (pc := 8) dX12_readWant_8 rfl rfl (by decide) ?_
  refine Ru_iload_n (pc := 9) dX12_readWant_9 rfl rfl ?_
  refine Ru_bipush (pc := 10) (nI 8) dX12_readWant_10 rfl ?_
  refine Ru_icmp_neN (pc := 12) 25 dX12_readWant_12 (by decide) (by omega) (fun h1 => ?_) (fun h1 => ?_)
  · have e0 : (if x.1 3 = 8 then sFail 6 s else s) = s := if_neg (by assumption)
    have hr : Y_rd T (if x.1 3 = 8 then sFail 6 s else s) M := by rw [e0]; exact hr
    have hb := hr.2.2.2.2
    refine Ru_aload_n (pc := 25) dX12_readWant_25 rfl rfl ?_
    refine Ru_iconst (pc := 26) (nI 1) dX12_readWant_26 rfl ?_
    refine Ru_cv1 (pc := 27) dX12_readWant_27 mv_X12_290 rfl (by decide) (Nat.le_of_ble_eq_true rfl) (c_X12_must (s := (if x.1 3 = 8 then sFail 6 s else s)) (b := true) tw hr (fun M2 gx2 (hr2 : Y_rd T (sNext (if x.1 3 = 8 then sFail 6 s else s)) M2) => ?_)) 
    have fx2 : r_fx [(0, 12), (0, 13), (0, 14), (0, 15), (0, 16), (0, 17), (0, 18), (0, 21)] [5, 6] M M2 := gx2.mono rfl
    have hb2 := hr2.2.2.2.2
    have ht2 := tTok_b (tK T (sNext (if x.1 3 = 8 then sFail 6 s else s)).1)
    have hb42 : Y_b4 x.1 M2 := (Y_b4_dp x.1).kp gx2 rfl hb4
    have hwk2 : ∀ q, ¬ q = 999 → M2.2.1 6 q = M.2.1 6 q := fun q hq => (gx2 6 q rfl).2.1.trans (hwk q hq)
    have hc52 : ∀ q, M2.1 5 q = M.1 5 q := fun q => (gx2 5 q rfl).1.trans (hc5 q)
    have hr2 : Y_rd T (wa0 T x s) M2 := hr2
    have hb2 := hr2.2.2.2.2
    have ht2 := tTok_b (tK T (wa0 T x s).1)
    refine Ru_aload_n (pc := 30) dX12_readWant_30 rfl rfl ?_
    refine Ru_iconst (pc := 31) (nI 4) dX12_readWant_31 rfl ?_
    refine Ru_iconst (pc := 32) (nI 0) dX12_readWant_32 rfl ?_
    refine Ru_iconst (pc := 33) (nI 0) dX12_readWant_33 rfl ?_
    refine Ru_cv3 (pc := 34) dX12_readWant_34 mv_X12_287 rfl (by decide) (Nat.le_of_ble_eq_true rfl) (c_X12_readOld (s := (wa0 T x s)) (W := x.2) (b := 4) (th := 0) (f := 0) (w0 := 0) (n := x.1 0) tw hr2 (by omega) (by decide) (by omega) (hb42 0 (by decide)) (fun k hk => ⟨(hwk2 (104 + k) (by omega)).trans (hw4.1 k hk).1, (hw4.1 k hk).2⟩) (fun M3 v3 gx3 hr3 hv3 => ?_)) 
    have fx3 : r_fx [(0, 12), (0, 13), (0, 14), (0, 15), (0, 16), (0, 17), (0, 18), (0, 21)] [5, 6] M M3 := fx2.tr (gx3.mono rfl)
    have hb3 := hr3.2.2.2.2
    have ht3 := tTok_b (tK T (sOld T x.2 0 (x.1 0) (wa0 T x s)).1)
    have hb43 : Y_b4 x.1 M3 := (Y_b4_dp x.1).kp gx3 rfl hb42
    have hwk3 : ∀ q, ¬ q = 999 → M3.2.1 6 q = M.2.1 6 q := fun q hq => (gx3 6 q rfl).2.1.trans (hwk2 q hq)
    have hc53 : ∀ q, M3.1 5 q = M.1 5 q := fun q => (gx3 5 q rfl).1.trans (hc52 q)
    refine Ru_istore_n (pc := 37) dX12_readWant_37 rfl rfl (by decide) ?_
    refine Ru_aload_n (pc := 38) dX12_readWant_38 rfl rfl ?_
    refine Ru_iconst (pc := 39) (nI 1) dX12_readWant_39 rfl ?_
    refine Ru_cv1 (pc := 40) dX12_readWant_40 mv_X12_290 rfl (by decide) (Nat.le_of_ble_eq_true rfl) (c_X12_must (s := (sOld T x.2 0 (x.1 0) (wa0 T x s))) (b := true) tw hr3 (fun M4 gx4 (hr4 : Y_rd T (sNext (sOld T x.2 0 (x.1 0) (wa0 T x s))) M4) => ?_)) 
    have fx4 : r_fx [(0, 12), (0, 13), (0, 14), (0, 15), (0, 16), (0, 17), (0, 18), (0, 21)] [5, 6] M M4 := fx3.tr (gx4.mono rfl)
    have hb4 := hr4.2.2.2.2
    have ht4 := tTok_b (tK T (sNext (sOld T x.2 0 (x.1 0) (wa0 T x s))).1)
    have hb44 : Y_b4 x.1 M4 := (Y_b4_dp x.1).kp gx4 rfl hb43
    have hwk4 : ∀ q, ¬ q = 999 → M4.2.1 6 q = M.2.1 6 q := fun q hq => (gx4 6 q rfl).2.1.trans (hwk3 q hq)
    have hc54 : ∀ q, M4.1 5 q = M.1 5 q := fun q => (gx4 5 q rfl).1.trans (hc53 q)
    have hr4 : Y_rd T (wa1 T x s) M4 := hr4
    have hb4 := hr4.2.2.2.2
    have ht4 := tTok_b (tK T (wa1 T x s).1)
    refine Ru_aload_n (pc := 43) dX12_readWant_43 rfl rfl ?_
    refine Ru_aload_n (pc := 44) dX12_readWant_44 rfl rfl ?_
    refine Ru_cv0 (pc := 45) dX12_readWant_45 mv_X12_209 rfl (by decide) (Nat.le_of_ble_eq_true rfl) (c_X12_isAt (i := (wa1 T x s).1) tw hr4.2.1 ?_) 
    refine Ru_cv1 (pc := 48) dX12_readWant_48 mv_X12_290 rfl (by decide) (Nat.le_of_ble_eq_true rfl) (c_X12_must (s := (wa1 T x s)) (b := (decide (tK T (wa1 T x s).1 = 142))) tw hr4 (fun M5 gx5 (hr5 : Y_rd T (sMust T (decide (tK T (wa1 T x s).1 = 142)) (wa1 T x s)) M5) => ?_)) 
    have fx5 : r_fx [(0, 12), (0, 13), (0, 14), (0, 15), (0, 16), (0, 17), (0, 18), (0, 21)] [5, 6] M M5 := fx4.tr (gx5.mono rfl)
    have hb5 := hr5.2.2.2.2
    have ht5 := tTok_b (tK T (sMust T (decide (tK T (wa1 T x s).1 = 142)) (wa1 T x s)).1)
    have hb45 : Y_b4 x.1 M5 := (Y_b4_dp x.1).kp gx5 rfl hb44
    have hwk5 : ∀ q, ¬ q = 999 → M5.2.1 6 q = M.2.1 6 q := fun q hq => (gx5 6 q rfl).2.1.trans (hwk4 q hq)
    have hc55 : ∀ q, M5.1 5 q = M.1 5 q := fun q => (gx5 5 q rfl).1.trans (hc54 q)
    have hr5 : Y_rd T (wa2 T x s) M5 := hr5
    have hb5 := hr5.2.2.2.2
    have ht5 := tTok_b (tK T (wa2 T x s).1)
    refine Ru_aload_n (pc := 51) dX12_readWant_51 rfl rfl ?_
    refine Ru_iconst (pc := 52) (nI 0) dX12_readWant_52 rfl ?_
    refine Ru_bipush (pc := 53) (nI 24) dX12_readWant_53 rfl ?_
    refine Ru_cv2 (pc := 55) dX12_readWant_55 mv_X12_294 rfl (by decide) (Nat.le_of_ble_eq_true rfl) (c_X12_count (s := (wa2 T x s)) (lo := 0) (hi := 24) tw hr5 (by decide) (fun M6 v6 gx6 hr6 hv6 => ?_)) 
    have fx6 : r_fx [(0, 12), (0, 13), (0, 14), (0, 15), (0, 16), (0, 17), (0, 18), (0, 21)] [5, 6] M M6 := fx5.tr (gx6.mono rfl)
    have hb6 := hr6.2.2.2.2
    have ht6 := tTok_b (tK T (sCount T 0 24 (wa2 T x s)).1)
    have hb46 : Y_b4 x.1 M6 := (Y_b4_dp x.1).kp gx6 rfl hb45
    have hwk6 : ∀ q, ¬ q = 999 → M6.2.1 6 q = M.2.1 6 q := fun q hq => (gx6 6 q rfl).2.1.trans (hwk5 q hq)
    have hc56 : ∀ q, M6.1 5 q = M.1 5 q := fun q => (gx6 5 q rfl).1.trans (hc55 q)
    have hr6 : Y_rd T (wa3 T x s) M6 := hr6
    have hb6 := hr6.2.2.2.2
    have ht6 := tTok_b (tK T (wa3 T x s).1)
    refine Ru_istore_n (pc := 58) dX12_readWant_58 rfl rfl (by decide) ?_
    refine Ru_aload_n (pc := 59) dX12_readWant_59 rfl rfl ?_
    refine Ru_aload_n (pc := 60) dX12_readWant_60 rfl rfl ?_
    refine Ru_cv0 (pc := 61) dX12_readWant_61 mv_X12_212 rfl (by decide) (Nat.le_of_ble_eq_true rfl) (c_X12_isWorth (i := (wa3 T x s).1) tw hr6.2.1 ?_) 
    refine Ru_cv1 (pc := 64) dX12_readWant_64 mv_X12_290 rfl (by decide) (Nat.le_of_ble_eq_true rfl) (c_X12_must (s := (wa3 T x s)) (b := (decide (tK T (wa3 T x s).1 = 143))) tw hr6 (fun M7 gx7 (hr7 : Y_rd T (sMust T (decide (tK T (wa3 T x s).1 = 143)) (wa3 T x s)) M7) => ?_)) 
    have fx7 : r_fx [(0, 12), (0, 13), (0, 14), (0, 15), (0, 16), (0, 17), (0, 18), (0, 21)] [5, 6] M M7 := fx6.tr (gx7.mono rfl)
    have hb7 := hr7.2.2.2.2
    have ht7 := tTok_b (tK T (sMust T (decide (tK T (wa3 T x s).1 = 143)) (wa3 T x s)).1)
    have hb47 : Y_b4 x.1 M7 := (Y_b4_dp x.1).kp gx7 rfl hb46
    have hwk7 : ∀ q, ¬ q = 999 → M7.2.1 6 q = M.2.1 6 q := fun q hq => (gx7 6 q rfl).2.1.trans (hwk6 q hq)
    have hc57 : ∀ q, M7.1 5 q = M.1 5 q := fun q => (gx7 5 q rfl).1.trans (hc56 q)
    have hr7 : Y_rd T (wa4 T x s) M7 := hr7
    have hb7 := hr7.2.2.2.2
    have ht7 := tTok_b (tK T (wa4 T x s).1)
    refine Ru_aload_n (pc := 67) dX12_readWant_67 rfl rfl ?_
    refine Ru_iconst (pc := 68) (nI 1) dX12_readWant_68 rfl ?_
    refine Ru_sipush (pc := 69) (nI 999) dX12_readWant_69 rfl ?_
    refine Ru_cv2 (pc := 72) dX12_readWant_72 mv_X12_294 rfl (by decide) (Nat.le_of_ble_eq_true rfl) (c_X12_count (s := (wa4 T x s)) (lo := 1) (hi := 999) tw hr7 (by decide) (fun M8 v8 gx8 hr8 hv8 => ?_)) 
    have fx8 : r_fx [(0, 12), (0, 13), (0, 14), (0, 15), (0, 16), (0, 17), (0, 18), (0, 21)] [5, 6] M M8 := fx7.tr (gx8.mono rfl)
    have hb8 := hr8.2.2.2.2
    have ht8 := tTok_b (tK T (sCount T 1 999 (wa4 T x s)).1)
    have hb48 : Y_b4 x.1 M8 := (Y_b4_dp x.1).kp gx8 rfl hb47
    have hwk8 : ∀ q, ¬ q = 999 → M8.2.1 6 q = M.2.1 6 q := fun q hq => (gx8 6 q rfl).2.1.trans (hwk7 q hq)
    have hc58 : ∀ q, M8.1 5 q = M.1 5 q := fun q => (gx8 5 q rfl).1.trans (hc57 q)
    have hr8 : Y_rd T (wa5 T x s) M8 := hr8
    have hb8 := hr8.2.2.2.2
    have ht8 := tTok_b (tK T (wa5 T x s).1)
    refine Ru_istore (pc := 75) dX12_readWant_75 rfl (by decide) ?_
    refine Ru_aload_n (pc := 77) dX12_readWant_77 rfl rfl ?_
    refine Ru_getI (pc := 78) dX12_readWant_78 fl_X12_251 rfl rfl ?_
    refine Ru_top hr8.2.2.1 ?_
    refine Ru_if_neN (pc := 81) 95 dX12_readWant_81 (by decide) (by omega) (fun h2 => ?_) (fun h2 => ?_)
    · refine Ru_iconst (pc := 95) (nI 0) dX12_readWant_95 rfl ?_
      refine Ru_istore (pc := 96) dX12_readWant_96 rfl (by decide) ?_
      refine Ru_iload (pc := 98) dX12_readWant_98 rfl ?_
      refine Ru_if_eqN (pc := 100) 107 dX12_readWant_100 (by decide) (by omega) (fun h3 => ?_) (fun h3 => ?_)
      · have eW : waS T x s = wa5 T x s := if_neg (by
            rintro ⟨y1, y2⟩
            first | exact absurd y2 (by assumption) | omega)
        have eB : bIf T 144 (wa5 T x s) = 0 := if_neg (by
            rintro ⟨y1, y2⟩
            first | exact absurd y2 (by assumption) | omega)
        have hr8 : Y_rd T (waS T x s) M8 := by rw [eW]; exact hr8
        have hb8 := hr8.2.2.2.2
        have zzS : ¬ (waS T x s).2 = 0 := by rw [eW]; omega
        refine Ru_aload_n (pc := 107) dX12_readWant_107 rfl rfl ?_
        refine Ru_getI (pc := 108) dX12_readWant_108 fl_X12_251 rfl rfl ?_
        refine Ru_top hr8.2.2.1 ?_
        refine Ru_if_leN (pc := 111) 115 dX12_readWant_111 (by decide) (by omega) (fun h4 => ?_) (fun h4 => ?_)
        · exfalso
          omega
        · refine Ru_vret (pc := 114) dX12_readWant_114 rfl ⟨Nat.le_refl _, Nat.le_refl _⟩ ?_
          have eS : waS T x s = waS T x s := rfl
          refine k M8 (fx8.mono rfl) ⟨fun j _ => hc58 j, fun j hj => hwk8 j (by omega)⟩ (by rw [eS]; exact hr8) (fun z => ?_)
          exfalso
          rw [eS] at z
          first | exact absurd z (by assumption) | omega
      · exfalso
        omega
    · refine Ru_aload_n (pc := 84) dX12_readWant_84 rfl rfl ?_
      refine Ru_cv0 (pc := 85) dX12_readWant_85 mv_X12_215 rfl (by decide) (Nat.le_of_ble_eq_true rfl) (c_X12_isEaten (i := (wa5 T x s).1) tw hr8.2.1 ?_) 
      refine Ru_if_eqB (pc := 88) 95 dX12_readWant_88 (by decide) (fun h5 => ?_) (fun h5 => ?_)
      · replace h5 := of_decide_eq_false h5
        refine Ru_iconst (pc := 95) (nI 0) dX12_readWant_95 rfl ?_
        refine Ru_istore (pc := 96) dX12_readWant_96 rfl (by decide) ?_
        refine Ru_iload (pc := 98) dX12_readWant_98 rfl ?_
        refine Ru_if_eqN (pc := 100) 107 dX12_readWant_100 (by decide) (by omega) (fun h6 => ?_) (fun h6 => ?_)
        · have eW : waS T x s = wa5 T x s := if_neg (by
              rintro ⟨y1, y2⟩
              first | exact absurd y2 (by assumption) | omega)
          have eB : bIf T 144 (wa5 T x s) = 0 := if_neg (by
              rintro ⟨y1, y2⟩
              first | exact absurd y2 (by assumption) | omega)
          have hr8 : Y_rd T (waS T x s) M8 := by rw [eW]; exact hr8
          have hb8 := hr8.2.2.2.2
          have zzS : (waS T x s).2 = 0 := by rw [eW]; assumption
          refine Ru_aload_n (pc := 107) dX12_readWant_107 rfl rfl ?_
          refine Ru_getI (pc := 108) dX12_readWant_108 fl_X12_251 rfl rfl ?_
          refine Ru_top hr8.2.2.1 ?_
          refine Ru_if_leN (pc := 111) 115 dX12_readWant_111 (by decide) (by omega) (fun h7 => ?_) (fun h7 => ?_)
          · have z5 : (wa5 T x s).2 = 0 := by
              have zq : (waS T x s).2 = 0 := by assumption
              unfold waS at zq
              rw [sIf_2] at zq
              exact zq
            have z4 : (wa4 T x s).2 = 0 := sCount_0 z5
            have z3 : (wa3 T x s).2 = 0 := sMust_0 z4
            have z2 : (wa2 T x s).2 = 0 := sCount_0 z3
            have z1 : (wa1 T x s).2 = 0 := sMust_0 z2
            have z0o : (sOld T x.2 0 (x.1 0) (wa0 T x s)).2 = 0 := sNext_0 z1
            have z0 : (wa0 T x s).2 = 0 := sOld_0 z0o
            have zb : (if x.1 3 = 8 then sFail 6 s else s).2 = 0 := sNext_0 z0
            have h38 : ¬ x.1 3 = 8 := by
              intro y
              rw [if_pos y] at zb
              unfold sFail at zb
              split at zb
              · cases zb
              · contradiction
            have ev2 : v3 = nI (fN x.2 (tL T (wa0 T x s).1) 0 (x.1 0) - 1) := hv3 z0o
            subst ev2
            have ev3 : v6 = nI (tV T (wa2 T x s).1) := hv6 z3
            subst ev3
            have ev4 : v8 = nI (tV T (wa4 T x s).1) := hv8 z5
            subst ev4
            refine Ru_aload_n (pc := 115) dX12_readWant_115 rfl rfl ?_
            refine Ru_getR (pc := 116) 5 dX12_readWant_116 fl_X12_35 rfl rfl rfl ?_
            refine Ru_sipush (pc := 119) (nI 2707) dX12_readWant_119 rfl ?_
            refine Ru_iload_n (pc := 122) dX12_readWant_122 rfl rfl ?_
            refine Ru_iaddN (pc := 123) dX12_readWant_123 ?_
            refine Ru_iload_n (pc := 124) dX12_readWant_124 rfl rfl ?_
            refine Ru_iast (pc := 125) rfl dX12_readWant_125 rfl (by omega) ?_
            refine Ru_aload_n (pc := 126) dX12_readWant_126 rfl rfl ?_
            refine Ru_getR (pc := 127) 5 dX12_readWant_127 fl_X12_35 rfl rfl rfl ?_
            refine Ru_sipush (pc := 130) (nI 2715) dX12_readWant_130 rfl ?_
            refine Ru_iload_n (pc := 133) dX12_readWant_133 rfl rfl ?_
            refine Ru_iaddN (pc := 134) dX12_readWant_134 ?_
            refine Ru_iload_n (pc := 135) dX12_readWant_135 rfl rfl ?_
            refine Ru_iast (pc := 136) rfl dX12_readWant_136 rfl (by omega) ?_
            refine Ru_aload_n (pc := 137) dX12_readWant_137 rfl rfl ?_
            refine Ru_getR (pc := 138) 5 dX12_readWant_138 fl_X12_35 rfl rfl rfl ?_
            refine Ru_sipush (pc := 141) (nI 2723) dX12_readWant_141 rfl ?_
            refine Ru_iload_n (pc := 144) dX12_readWant_144 rfl rfl ?_
            refine Ru_iaddN (pc := 145) dX12_readWant_145 ?_
            refine Ru_iload (pc := 146) dX12_readWant_146 rfl ?_
            refine Ru_iast (pc := 148) rfl dX12_readWant_148 rfl (by omega) ?_
            refine Ru_aload_n (pc := 149) dX12_readWant_149 rfl rfl ?_
            refine Ru_getR (pc := 150) 5 dX12_readWant_150 fl_X12_35 rfl rfl rfl ?_
            refine Ru_sipush (pc := 153) (nI 2731) dX12_readWant_153 rfl ?_
            refine Ru_iload_n (pc := 156) dX12_readWant_156 rfl rfl ?_
            refine Ru_iaddN (pc := 157) dX12_readWant_157 ?_
            refine Ru_iload (pc := 158) dX12_readWant_158 rfl ?_
            refine Ru_if_eqN (pc := 160) 167 dX12_readWant_160 (by decide) (by omega) (fun h8 => ?_) (fun h8 => ?_)
            · refine Ru_iconst (pc := 167) (nI 0) dX12_readWant_167 rfl ?_
              refine Ru_iast (pc := 168) rfl dX12_readWant_168 rfl (by omega) ?_
              refine Ru_aload_n (pc := 169) dX12_readWant_169 rfl rfl ?_
              refine Ru_getR (pc := 170) 5 dX12_readWant_170 fl_X12_35 rfl rfl rfl ?_
              refine Ru_sipush (pc := 173) (nI 2603) dX12_readWant_173 rfl ?_
              refine Ru_dup2 (pc := 176) dX12_readWant_176 rfl rfl ?_
              refine Ru_iald (pc := 177) dX12_readWant_177 rfl (by omega) ?_
              refine Ru_top ((r_sI_n (by omega)).trans ((r_sI_n (by omega)).trans ((r_sI_n (by omega)).trans ((r_sI_n (by omega)).trans (hb48 3 (by decide)))))) ?_
              refine Ru_iconst (pc := 178) (nI 1) dX12_readWant_178 rfl ?_
              refine Ru_iaddN (pc := 179) dX12_readWant_179 ?_
              refine Ru_iast (pc := 180) rfl dX12_readWant_180 rfl (by omega) ?_
              refine Ru_vret (pc := 181) dX12_readWant_181 rfl ⟨Nat.le_refl _, Nat.le_refl _⟩ ?_
              have eS : waS T x s = waS T x s := rfl
              refine k _ (r_fx.sI rfl (r_fx.sI rfl (r_fx.sI rfl (r_fx.sI rfl (r_fx.sI rfl fx8))))) ⟨fun j hj => ?_, fun j hj => ?_⟩ ?_ (fun _ => ⟨?_, ?_⟩)
              · refine (r_sI_n (by omega)).trans ?_
                refine (r_sI_n (by omega)).trans ?_
                refine (r_sI_n (by omega)).trans ?_
                refine (r_sI_n (by omega)).trans ?_
                refine (r_sI_n (by omega)).trans ?_
                exact hc58 j
              · exact hwk8 j (by omega)
              · rw [eS]
                exact (Y_rd_dp T (waS T x s)).kp (F := []) (A := [5]) (r_fx.sI rfl (r_fx.sI rfl (r_fx.sI rfl (r_fx.sI rfl (r_fx.sI rfl r_fx.rf))))) rfl hr8
              · intro j hj
                unfold waX
                dsimp only
                by_cases a0 : j = 3
                · rw [if_pos a0]
                  rw [r_sI_g, if_pos (by omega)]
                  try rfl
                · rw [if_neg a0]
                  by_cases a1 : j = 107 + x.1 3
                  · rw [if_pos a1]
                    refine (r_sI_n (by omega)).trans ?_
                    refine (r_sI_n (by omega)).trans ?_
                    refine (r_sI_n (by omega)).trans ?_
                    refine (r_sI_n (by omega)).trans ?_
                    rw [r_sI_g, if_pos (by omega)]
                    try rfl
                  · rw [if_neg a1]
                    by_cases a2 : j = 115 + x.1 3
                    · rw [if_pos a2]
                      refine (r_sI_n (by omega)).trans ?_
                      refine (r_sI_n (by omega)).trans ?_
                      refine (r_sI_n (by omega)).trans ?_
                      rw [r_sI_g, if_pos (by omega)]
                      try rfl
                    · rw [if_neg a2]
                      by_cases a3 : j = 123 + x.1 3
                      · rw [if_pos a3]
                        refine (r_sI_n (by omega)).trans ?_
                        refine (r_sI_n (by omega)).trans ?_
                        rw [r_sI_g, if_pos (by omega)]
                        try rfl
                      · rw [if_neg a3]
                        by_cases a4 : j = 131 + x.1 3
                        · rw [if_pos a4]
                          refine (r_sI_n (by omega)).trans ?_
                          rw [r_sI_g, if_pos (by omega)]
                          rw [eB]
                        · rw [if_neg a4]
                          refine (r_sI_n (by omega)).trans ?_
                          refine (r_sI_n (by omega)).trans ?_
                          refine (r_sI_n (by omega)).trans ?_
                          refine (r_sI_n (by omega)).trans ?_
                          refine (r_sI_n (by omega)).trans ?_
                          exact hb48 j hj
              · exact Y_w4_3 hw4 (fun q hq => hwk8 q hq) ((if_neg (by omega)).trans ((if_neg (by omega)).trans ((if_neg (by omega)).trans ((if_neg (by omega)).trans ((if_neg (by omega)).trans rfl))))) ((if_neg (by omega)).trans ((if_neg (by omega)).trans ((if_neg (by omega)).trans ((if_neg (by omega)).trans ((if_neg (by omega)).trans rfl))))) ((if_neg (by omega)).trans ((if_neg (by omega)).trans ((if_neg (by omega)).trans ((if_neg (by omega)).trans ((if_neg (by omega)).trans rfl))))) (Nat.le_trans (Nat.le_of_eq (if_pos rfl)) (by omega))
            · exfalso
              omega
          · exfalso
            omega
        · exfalso
          omega
      · replace h5 := of_decide_eq_true h5
        refine Ru_iconst (pc := 91) (nI 1) dX12_readWant_91 rfl ?_
        refine Ru_goto (pc := 92) 96 dX12_readWant_92 (by decide) ?_
        refine Ru_istore (pc := 96) dX12_readWant_96 rfl (by decide) ?_
        refine Ru_iload (pc := 98) dX12_readWant_98 rfl ?_
        refine Ru_if_eqN (pc := 100) 107 dX12_readWant_100 (by decide) (by omega) (fun h9 => ?_) (fun h9 => ?_)
        · exfalso
          omega
        · refine Ru_aload_n (pc := 103) dX12_readWant_103 rfl rfl ?_
          refine Ru_cv0 (pc := 104) dX12_readWant_104 mv_X12_261 rfl (by decide) (Nat.le_of_ble_eq_true rfl) (c_X12_nextS (s := (wa5 T x s)) tw hr8 (by first | rfl | assumption | omega) (fun M9 gx9 (hr9 : Y_rd T ((wa5 T x s).1 + 1, 0) M9) => ?_)) 
          have fx9 : r_fx [(0, 12), (0, 13), (0, 14), (0, 15), (0, 16), (0, 17), (0, 18), (0, 21)] [5, 6] M M9 := fx8.tr (gx9.mono rfl)
          have hb9 := hr9.2.2.2.2
          have ht9 := tTok_b (tK T ((wa5 T x s).1 + 1))
          have hb49 : Y_b4 x.1 M9 := (Y_b4_dp x.1).kp gx9 rfl hb48
          have hwk9 : ∀ q, ¬ q = 999 → M9.2.1 6 q = M.2.1 6 q := fun q hq => (gx9 6 q rfl).2.1.trans (hwk8 q hq)
          have hc59 : ∀ q, M9.1 5 q = M.1 5 q := fun q => (gx9 5 q rfl).1.trans (hc58 q)
          have eW : waS T x s = ((wa5 T x s).1 + 1, 0) := sIf_t (by assumption) (by assumption)
          have eB : bIf T 144 (wa5 T x s) = 1 := bIf_t (by assumption) (by assumption)
          have hr9 : Y_rd T (waS T x s) M9 := by rw [eW]; exact hr9
          have hb9 := hr9.2.2.2.2
          have zzS : (waS T x s).2 = 0 := by rw [eW]; try rfl
          refine Ru_aload_n (pc := 107) dX12_readWant_107 rfl rfl ?_
          refine Ru_getI (pc := 108) dX12_readWant_108 fl_X12_251 rfl rfl ?_
          refine Ru_top hr9.2.2.1 ?_
          refine Ru_if_leN (pc := 111) 115 dX12_readWant_111 (by decide) (by omega) (fun h10 => ?_) (fun h10 => ?_)
          · have z5 : (wa5 T x s).2 = 0 := by
              have zq : (waS T x s).2 = 0 := by assumption
              unfold waS at zq
              rw [sIf_2] at zq
              exact zq
            have z4 : (wa4 T x s).2 = 0 := sCount_0 z5
            have z3 : (wa3 T x s).2 = 0 := sMust_0 z4
            have z2 : (wa2 T x s).2 = 0 := sCount_0 z3
            have z1 : (wa1 T x s).2 = 0 := sMust_0 z2
            have z0o : (sOld T x.2 0 (x.1 0) (wa0 T x s)).2 = 0 := sNext_0 z1
            have z0 : (wa0 T x s).2 = 0 := sOld_0 z0o
            have zb : (if x.1 3 = 8 then sFail 6 s else s).2 = 0 := sNext_0 z0
            have h38 : ¬ x.1 3 = 8 := by
              intro y
              rw [if_pos y] at zb
              unfold sFail at zb
              split at zb
              · cases zb
              · contradiction
            have ev2 : v3 = nI (fN x.2 (tL T (wa0 T x s).1) 0 (x.1 0) - 1) := hv3 z0o
            subst ev2
            have ev3 : v6 = nI (tV T (wa2 T x s).1) := hv6 z3
            subst ev3
            have ev4 : v8 = nI (tV T (wa4 T x s).1) := hv8 z5
            subst ev4
            refine Ru_aload_n (pc := 115) dX12_readWant_115 rfl rfl ?_
            refine Ru_getR (pc := 116) 5 dX12_readWant_116 fl_X12_35 rfl rfl rfl ?_
            refine Ru_sipush (pc := 119) (nI 2707) dX12_readWant_119 rfl ?_
            refine Ru_iload_n (pc := 122) dX12_readWant_122 rfl rfl ?_
            refine Ru_iaddN (pc := 123) dX12_readWant_123 ?_
            refine Ru_iload_n (pc := 124) dX12_readWant_124 rfl rfl ?_
            refine Ru_iast (pc := 125) rfl dX12_readWant_125 rfl (by omega) ?_
            refine Ru_aload_n (pc := 126) dX12_readWant_126 rfl rfl ?_
            refine Ru_getR (pc := 127) 5 dX12_readWant_127 fl_X12_35 rfl rfl rfl ?_
            refine Ru_sipush (pc := 130) (nI 2715) dX12_readWant_130 rfl ?_
            refine Ru_iload_n (pc := 133) dX12_readWant_133 rfl rfl ?_
            refine Ru_iaddN (pc := 134) dX12_readWant_134 ?_
            refine Ru_iload_n (pc := 135) dX12_readWant_135 rfl rfl ?_
            refine Ru_iast (pc := 136) rfl dX12_readWant_136 rfl (by omega) ?_
            refine Ru_aload_n (pc := 137) dX12_readWant_137 rfl rfl ?_
            refine Ru_getR (pc := 138) 5 dX12_readWant_138 fl_X12_35 rfl rfl rfl ?_
            refine Ru_sipush (pc := 141) (nI 2723) dX12_readWant_141 rfl ?_
            refine Ru_iload_n (pc := 144) dX12_readWant_144 rfl rfl ?_
            refine Ru_iaddN (pc := 145) dX12_readWant_145 ?_
            refine Ru_iload (pc := 146) dX12_readWant_146 rfl ?_
            refine Ru_iast (pc := 148) rfl dX12_readWant_148 rfl (by omega) ?_
            refine Ru_aload_n (pc := 149) dX12_readWant_149 rfl rfl ?_
            refine Ru_getR (pc := 150) 5 dX12_readWant_150 fl_X12_35 rfl rfl rfl ?_
            refine Ru_sipush (pc := 153) (nI 2731) dX12_readWant_153 rfl ?_
            refine Ru_iload_n (pc := 156) dX12_readWant_156 rfl rfl ?_
            refine Ru_iaddN (pc := 157) dX12_readWant_157 ?_
            refine Ru_iload (pc := 158) dX12_readWant_158 rfl ?_
            refine Ru_if_eqN (pc := 160) 167 dX12_readWant_160 (by decide) (by omega) (fun h11 => ?_) (fun h11 => ?_)
            · exfalso
              omega
            · refine Ru_iconst (pc := 163) (nI 1) dX12_readWant_163 rfl ?_
              refine Ru_goto (pc := 164) 168 dX12_readWant_164 (by decide) ?_
              refine Ru_iast (pc := 168) rfl dX12_readWant_168 rfl (by omega) ?_
              refine Ru_aload_n (pc := 169) dX12_readWant_169 rfl rfl ?_
              refine Ru_getR (pc := 170) 5 dX12_readWant_170 fl_X12_35 rfl rfl rfl ?_
              refine Ru_sipush (pc := 173) (nI 2603) dX12_readWant_173 rfl ?_
              refine Ru_dup2 (pc := 176) dX12_readWant_176 rfl rfl ?_
              refine Ru_iald (pc := 177) dX12_readWant_177 rfl (by omega) ?_
              refine Ru_top ((r_sI_n (by omega)).trans ((r_sI_n (by omega)).trans ((r_sI_n (by omega)).trans ((r_sI_n (by omega)).trans (hb49 3 (by decide)))))) ?_
              refine Ru_iconst (pc := 178) (nI 1) dX12_readWant_178 rfl ?_
              refine Ru_iaddN (pc := 179) dX12_readWant_179 ?_
              refine Ru_iast (pc := 180) rfl dX12_readWant_180 rfl (by omega) ?_
              refine Ru_vret (pc := 181) dX12_readWant_181 rfl ⟨Nat.le_refl _, Nat.le_refl _⟩ ?_
              have eS : waS T x s = waS T x s := rfl
              refine k _ (r_fx.sI rfl (r_fx.sI rfl (r_fx.sI rfl (r_fx.sI rfl (r_fx.sI rfl fx9))))) ⟨fun j hj => ?_, fun j hj => ?_⟩ ?_ (fun _ => ⟨?_, ?_⟩)
              · refine (r_sI_n (by omega)).trans ?_
                refine (r_sI_n (by omega)).trans ?_
                refine (r_sI_n (by omega)).trans ?_
                refine (r_sI_n (by omega)).trans ?_
                refine (r_sI_n (by omega)).trans ?_
                exact hc59 j
              · exact hwk9 j (by omega)
              · rw [eS]
                exact (Y_rd_dp T (waS T x s)).kp (F := []) (A := [5]) (r_fx.sI rfl (r_fx.sI rfl (r_fx.sI rfl (r_fx.sI rfl (r_fx.sI rfl r_fx.rf))))) rfl hr9
              · intro j hj
                unfold waX
                dsimp only
                by_cases a0 : j = 3
                · rw [if_pos a0]
                  rw [r_sI_g, if_pos (by omega)]
                  try rfl
                · rw [if_neg a0]
                  by_cases a1 : j = 107 + x.1 3
                  · rw [if_pos a1]
                    refine (r_sI_n (by omega)).trans ?_
                    refine (r_sI_n (by omega)).trans ?_
                    refine (r_sI_n (by omega)).trans ?_
                    refine (r_sI_n (by omega)).trans ?_
                    rw [r_sI_g, if_pos (by omega)]
                    try rfl
                  · rw [if_neg a1]
                    by_cases a2 : j = 115 + x.1 3
                    · rw [if_pos a2]
                      refine (r_sI_n (by omega)).trans ?_
                      refine (r_sI_n (by omega)).trans ?_
                      refine (r_sI_n (by omega)).trans ?_
                      rw [r_sI_g, if_pos (by omega)]
                      try rfl
                    · rw [if_neg a2]
                      by_cases a3 : j = 123 + x.1 3
                      · rw [if_pos a3]
                        refine (r_sI_n (by omega)).trans ?_
                        refine (r_sI_n (by omega)).trans ?_
                        rw [r_sI_g, if_pos (by omega)]
                        try rfl
                      · rw [if_neg a3]
                        by_cases a4 : j = 131 + x.1 3
                        · rw [if_pos a4]
                          refine (r_sI_n (by omega)).trans ?_
                          rw [r_sI_g, if_pos (by omega)]
                          rw [eB]
                        · rw [if_neg a4]
                          refine (r_sI_n (by omega)).trans ?_
                          refine (r_sI_n (by omega)).trans ?_
                          refine (r_sI_n (by omega)).trans ?_
                          refine (r_sI_n (by omega)).trans ?_
                          refine (r_sI_n (by omega)).trans ?_
                          exact hb49 j hj
              · exact Y_w4_3 hw4 (fun q hq => hwk9 q hq) ((if_neg (by omega)).trans ((if_neg (by omega)).trans ((if_neg (by omega)).trans ((if_neg (by omega)).trans ((if_neg (by omega)).trans rfl))))) ((if_neg (by omega)).trans ((if_neg (by omega)).trans ((if_neg (by omega)).trans ((if_neg (by omega)).trans ((if_neg (by omega)).trans rfl))))) ((if_neg (by omega)).trans ((if_neg (by omega)).trans ((if_neg (by omega)).trans ((if_neg (by omega)).trans ((if_neg (by omega)).trans rfl))))) (Nat.le_trans (Nat.le_of_eq (if_pos rfl)) (by omega))
          · exfalso
            omega
  · refine Ru_aload_n (pc := 15) dX12_readWant_15 rfl rfl ?_
    refine Ru_bipush (pc := 16) (nI 6) dX12_readWant_16 rfl ?_
    refine Ru_aload_n (pc := 18) dX12_readWant_18 rfl rfl ?_
    refine Ru_getI (pc := 19) dX12_readWant_19 fl_X12_132 rfl rfl ?_
    refine Ru_top hr.2.1.1 ?_
    refine Ru_cv2 (pc := 22) dX12_readWant_22 mv_X12_257 rfl (by decide) (Nat.le_of_ble_eq_true rfl) (c_X12_fail (f := 6) (s := s) tw hr (by decide) (fun M2 gx2 hr2 => ?_)) 
    have fx2 : r_fx [(0, 12), (0, 13), (0, 14), (0, 15), (0, 16), (0, 17), (0, 18), (0, 21)] [5, 6] M M2 := gx2.mono rfl
    have hb2 := hr2.2.2.2.2
    have ht2 := tTok_b (tK T (sFail 6 s).1)
    have hb42 : Y_b4 x.1 M2 := (Y_b4_dp x.1).kp gx2 rfl hb4
    have hwk2 : ∀ q, ¬ q = 999 → M2.2.1 6 q = M.2.1 6 q := fun q hq => (gx2 6 q rfl).2.1.trans (hwk q hq)
    have hc52 : ∀ q, M2.1 5 q = M.1 5 q := fun q => (gx2 5 q rfl).1.trans (hc5 q)
    have e0 : (if x.1 3 = 8 then sFail 6 s else s) = (sFail 6 s) := if_pos (by assumption)
    have hr2 : Y_rd T (if x.1 3 = 8 then sFail 6 s else s) M2 := by rw [e0]; exact hr2
    have hb2 := hr2.2.2.2.2
    refine Ru_aload_n (pc := 25) dX12_readWant_25 rfl rfl ?_
    refine Ru_iconst (pc := 26) (nI 1) dX12_readWant_26 rfl ?_
    refine Ru_cv1 (pc := 27) dX12_readWant_27 mv_X12_290 rfl (by decide) (Nat.le_of_ble_eq_true rfl) (c_X12_must (s := (if x.1 3 = 8 then sFail 6 s else s)) (b := true) tw hr2 (fun M3 gx3 (hr3 : Y_rd T (sNext (if x.1 3 = 8 then sFail 6 s else s)) M3) => ?_)) 
    have fx3 : r_fx [(0, 12), (0, 13), (0, 14), (0, 15), (0, 16), (0, 17), (0, 18), (0, 21)] [5, 6] M M3 := fx2.tr (gx3.mono rfl)
    have hb3 := hr3.2.2.2.2
    have ht3 := tTok_b (tK T (sNext (if x.1 3 = 8 then sFail 6 s else s)).1)
    have hb43 : Y_b4 x.1 M3 := (Y_b4_dp x.1).kp gx3 rfl hb42
    have hwk3 : ∀ q, ¬ q = 999 → M3.2.1 6 q = M.2.1 6 q := fun q hq => (gx3 6 q rfl).2.1.trans (hwk2 q hq)
    have hc53 : ∀ q, M3.1 5 q = M.1 5 q := fun q => (gx3 5 q rfl).1.trans (hc52 q)
    have hr3 : Y_rd T (wa0 T x s) M3 := hr3
    have hb3 := hr3.2.2.2.2
    have ht3 := tTok_b (tK T (wa0 T x s).1)
    refine Ru_aload_n (pc := 30) dX12_readWant_30 rfl rfl ?_
    refine Ru_iconst (pc := 31) (nI 4) dX12_readWant_31 rfl ?_
    refine Ru_iconst (pc := 32) (nI 0) dX12_readWant_32 rfl ?_
    refine Ru_iconst (pc := 33) (nI 0) dX12_readWant_33 rfl ?_
    refine Ru_cv3 (pc := 34) dX12_readWant_34 mv_X12_287 rfl (by decide) (Nat.le_of_ble_eq_true rfl) (c_X12_readOld (s := (wa0 T x s)) (W := x.2) (b := 4) (th := 0) (f := 0) (w0 := 0) (n := x.1 0) tw hr3 (by omega) (by decide) (by omega) (hb43 0 (by decide)) (fun k hk => ⟨(hwk3 (104 + k) (by omega)).trans (hw4.1 k hk).1, (hw4.1 k hk).2⟩) (fun M4 v4 gx4 hr4 hv4 => ?_)) 
    have fx4 : r_fx [(0, 12), (0, 13), (0, 14), (0, 15), (0, 16), (0, 17), (0, 18), (0, 21)] [5, 6] M M4 := fx3.tr (gx4.mono rfl)
    have hb4 := hr4.2.2.2.2
    have ht4 := tTok_b (tK T (sOld T x.2 0 (x.1 0) (wa0 T x s)).1)
    have hb44 : Y_b4 x.1 M4 := (Y_b4_dp x.1).kp gx4 rfl hb43
    have hwk4 : ∀ q, ¬ q = 999 → M4.2.1 6 q = M.2.1 6 q := fun q hq => (gx4 6 q rfl).2.1.trans (hwk3 q hq)
    have hc54 : ∀ q, M4.1 5 q = M.1 5 q := fun q => (gx4 5 q rfl).1.trans (hc53 q)
    refine Ru_istore_n (pc := 37) dX12_readWant_37 rfl rfl (by decide) ?_
    refine Ru_aload_n (pc := 38) dX12_readWant_38 rfl rfl ?_
    refine Ru_iconst (pc := 39) (nI 1) dX12_readWant_39 rfl ?_
    refine Ru_cv1 (pc := 40) dX12_readWant_40 mv_X12_290 rfl (by decide) (Nat.le_of_ble_eq_true rfl) (c_X12_must (s := (sOld T x.2 0 (x.1 0) (wa0 T x s))) (b := true) tw hr4 (fun M5 gx5 (hr5 : Y_rd T (sNext (sOld T x.2 0 (x.1 0) (wa0 T x s))) M5) => ?_)) 
    have fx5 : r_fx [(0, 12), (0, 13), (0, 14), (0, 15), (0, 16), (0, 17), (0, 18), (0, 21)] [5, 6] M M5 := fx4.tr (gx5.mono rfl)
    have hb5 := hr5.2.2.2.2
    have ht5 := tTok_b (tK T (sNext (sOld T x.2 0 (x.1 0) (wa0 T x s))).1)
    have hb45 : Y_b4 x.1 M5 := (Y_b4_dp x.1).kp gx5 rfl hb44
    have hwk5 : ∀ q, ¬ q = 999 → M5.2.1 6 q = M.2.1 6 q := fun q hq => (gx5 6 q rfl).2.1.trans (hwk4 q hq)
    have hc55 : ∀ q, M5.1 5 q = M.1 5 q := fun q => (gx5 5 q rfl).1.trans (hc54 q)
    have hr5 : Y_rd T (wa1 T x s) M5 := hr5
    have hb5 := hr5.2.2.2.2
    have ht5 := tTok_b (tK T (wa1 T x s).1)
    refine Ru_aload_n (pc := 43) dX12_readWant_43 rfl rfl ?_
    refine Ru_aload_n (pc := 44) dX12_readWant_44 rfl rfl ?_
    refine Ru_cv0 (pc := 45) dX12_readWant_45 mv_X12_209 rfl (by decide) (Nat.le_of_ble_eq_true rfl) (c_X12_isAt (i := (wa1 T x s).1) tw hr5.2.1 ?_) 
    refine Ru_cv1 (pc := 48) dX12_readWant_48 mv_X12_290 rfl (by decide) (Nat.le_of_ble_eq_true rfl) (c_X12_must (s := (wa1 T x s)) (b := (decide (tK T (wa1 T x s).1 = 142))) tw hr5 (fun M6 gx6 (hr6 : Y_rd T (sMust T (decide (tK T (wa1 T x s).1 = 142)) (wa1 T x s)) M6) => ?_)) 
    have fx6 : r_fx [(0, 12), (0, 13), (0, 14), (0, 15), (0, 16), (0, 17), (0, 18), (0, 21)] [5, 6] M M6 := fx5.tr (gx6.mono rfl)
    have hb6 := hr6.2.2.2.2
    have ht6 := tTok_b (tK T (sMust T (decide (tK T (wa1 T x s).1 = 142)) (wa1 T x s)).1)
    have hb46 : Y_b4 x.1 M6 := (Y_b4_dp x.1).kp gx6 rfl hb45
    have hwk6 : ∀ q, ¬ q = 999 → M6.2.1 6 q = M.2.1 6 q := fun q hq => (gx6 6 q rfl).2.1.trans (hwk5 q hq)
    have hc56 : ∀ q, M6.1 5 q = M.1 5 q := fun q => (gx6 5 q rfl).1.trans (hc55 q)
    have hr6 : Y_rd T (wa2 T x s) M6 := hr6
    have hb6 := hr6.2.2.2.2
    have ht6 := tTok_b (tK T (wa2 T x s).1)
    refine Ru_aload_n (pc := 51) dX12_readWant_51 rfl rfl ?_
    refine Ru_iconst (pc := 52) (nI 0) dX12_readWant_52 rfl ?_
    refine Ru_bipush (pc := 53) (nI 24) dX12_readWant_53 rfl ?_
    refine Ru_cv2 (pc := 55) dX12_readWant_55 mv_X12_294 rfl (by decide) (Nat.le_of_ble_eq_true rfl) (c_X12_count (s := (wa2 T x s)) (lo := 0) (hi := 24) tw hr6 (by decide) (fun M7 v7 gx7 hr7 hv7 => ?_)) 
    have fx7 : r_fx [(0, 12), (0, 13), (0, 14), (0, 15), (0, 16), (0, 17), (0, 18), (0, 21)] [5, 6] M M7 := fx6.tr (gx7.mono rfl)
    have hb7 := hr7.2.2.2.2
    have ht7 := tTok_b (tK T (sCount T 0 24 (wa2 T x s)).1)
    have hb47 : Y_b4 x.1 M7 := (Y_b4_dp x.1).kp gx7 rfl hb46
    have hwk7 : ∀ q, ¬ q = 999 → M7.2.1 6 q = M.2.1 6 q := fun q hq => (gx7 6 q rfl).2.1.trans (hwk6 q hq)
    have hc57 : ∀ q, M7.1 5 q = M.1 5 q := fun q => (gx7 5 q rfl).1.trans (hc56 q)
    have hr7 : Y_rd T (wa3 T x s) M7 := hr7
    have hb7 := hr7.2.2.2.2
    have ht7 := tTok_b (tK T (wa3 T x s).1)
    refine Ru_istore_n (pc := 58) dX12_readWant_58 rfl rfl (by decide) ?_
    refine Ru_aload_n (pc := 59) dX12_readWant_59 rfl rfl ?_
    refine Ru_aload_n (pc := 60) dX12_readWant_60 rfl rfl ?_
    refine Ru_cv0 (pc := 61) dX12_readWant_61 mv_X12_212 rfl (by decide) (Nat.le_of_ble_eq_true rfl) (c_X12_isWorth (i := (wa3 T x s).1) tw hr7.2.1 ?_) 
    refine Ru_cv1 (pc := 64) dX12_readWant_64 mv_X12_290 rfl (by decide) (Nat.le_of_ble_eq_true rfl) (c_X12_must (s := (wa3 T x s)) (b := (decide (tK T (wa3 T x s).1 = 143))) tw hr7 (fun M8 gx8 (hr8 : Y_rd T (sMust T (decide (tK T (wa3 T x s).1 = 143)) (wa3 T x s)) M8) => ?_)) 
    have fx8 : r_fx [(0, 12), (0, 13), (0, 14), (0, 15), (0, 16), (0, 17), (0, 18), (0, 21)] [5, 6] M M8 := fx7.tr (gx8.mono rfl)
    have hb8 := hr8.2.2.2.2
    have ht8 := tTok_b (tK T (sMust T (decide (tK T (wa3 T x s).1 = 143)) (wa3 T x s)).1)
    have hb48 : Y_b4 x.1 M8 := (Y_b4_dp x.1).kp gx8 rfl hb47
    have hwk8 : ∀ q, ¬ q = 999 → M8.2.1 6 q = M.2.1 6 q := fun q hq => (gx8 6 q rfl).2.1.trans (hwk7 q hq)
    have hc58 : ∀ q, M8.1 5 q = M.1 5 q := fun q => (gx8 5 q rfl).1.trans (hc57 q)
    have hr8 : Y_rd T (wa4 T x s) M8 := hr8
    have hb8 := hr8.2.2.2.2
    have ht8 := tTok_b (tK T (wa4 T x s).1)
    refine Ru_aload_n (pc := 67) dX12_readWant_67 rfl rfl ?_
    refine Ru_iconst (pc := 68) (nI 1) dX12_readWant_68 rfl ?_
    refine Ru_sipush (pc := 69) (nI 999) dX12_readWant_69 rfl ?_
    refine Ru_cv2 (pc := 72) dX12_readWant_72 mv_X12_294 rfl (by decide) (Nat.le_of_ble_eq_true rfl) (c_X12_count (s := (wa4 T x s)) (lo := 1) (hi := 999) tw hr8 (by decide) (fun M9 v9 gx9 hr9 hv9 => ?_)) 
    have fx9 : r_fx [(0, 12), (0, 13), (0, 14), (0, 15), (0, 16), (0, 17), (0, 18), (0, 21)] [5, 6] M M9 := fx8.tr (gx9.mono rfl)
    have hb9 := hr9.2.2.2.2
    have ht9 := tTok_b (tK T (sCount T 1 999 (wa4 T x s)).1)
    have hb49 : Y_b4 x.1 M9 := (Y_b4_dp x.1).kp gx9 rfl hb48
    have hwk9 : ∀ q, ¬ q = 999 → M9.2.1 6 q = M.2.1 6 q := fun q hq => (gx9 6 q rfl).2.1.trans (hwk8 q hq)
    have hc59 : ∀ q, M9.1 5 q = M.1 5 q := fun q => (gx9 5 q rfl).1.trans (hc58 q)
    have hr9 : Y_rd T (wa5 T x s) M9 := hr9
    have hb9 := hr9.2.2.2.2
    have ht9 := tTok_b (tK T (wa5 T x s).1)
    refine Ru_istore (pc := 75) dX12_readWant_75 rfl (by decide) ?_
    refine Ru_aload_n (pc := 77) dX12_readWant_77 rfl rfl ?_
    refine Ru_getI (pc := 78) dX12_readWant_78 fl_X12_251 rfl rfl ?_
    refine Ru_top hr9.2.2.1 ?_
    refine Ru_if_neN (pc := 81) 95 dX12_readWant_81 (by decide) (by omega) (fun h12 => ?_) (fun h12 => ?_)
    · refine Ru_iconst (pc := 95) (nI 0) dX12_readWant_95 rfl ?_
      refine Ru_istore (pc := 96) dX12_readWant_96 rfl (by decide) ?_
      refine Ru_iload (pc := 98) dX12_readWant_98 rfl ?_
      refine Ru_if_eqN (pc := 100) 107 dX12_readWant_100 (by decide) (by omega) (fun h13 => ?_) (fun h13 => ?_)
      · have eW : waS T x s = wa5 T x s := if_neg (by
            rintro ⟨y1, y2⟩
            first | exact absurd y2 (by assumption) | omega)
        have eB : bIf T 144 (wa5 T x s) = 0 := if_neg (by
            rintro ⟨y1, y2⟩
            first | exact absurd y2 (by assumption) | omega)
        have hr9 : Y_rd T (waS T x s) M9 := by rw [eW]; exact hr9
        have hb9 := hr9.2.2.2.2
        have zzS : ¬ (waS T x s).2 = 0 := by rw [eW]; omega
        refine Ru_aload_n (pc := 107) dX12_readWant_107 rfl rfl ?_
        refine Ru_getI (pc := 108) dX12_readWant_108 fl_X12_251 rfl rfl ?_
        refine Ru_top hr9.2.2.1 ?_
        refine Ru_if_leN (pc := 111) 115 dX12_readWant_111 (by decide) (by omega) (fun h14 => ?_) (fun h14 => ?_)
        · exfalso
          omega
        · refine Ru_vret (pc := 114) dX12_readWant_114 rfl ⟨Nat.le_refl _, Nat.le_refl _⟩ ?_
          have eS : waS T x s = waS T x s := rfl
          refine k M9 (fx9.mono rfl) ⟨fun j _ => hc59 j, fun j hj => hwk9 j (by omega)⟩ (by rw [eS]; exact hr9) (fun z => ?_)
          exfalso
          rw [eS] at z
          first | exact absurd z (by assumption) | omega
      · exfalso
        omega
    · refine Ru_aload_n (pc := 84) dX12_readWant_84 rfl rfl ?_
      refine Ru_cv0 (pc := 85) dX12_readWant_85 mv_X12_215 rfl (by decide) (Nat.le_of_ble_eq_true rfl) (c_X12_isEaten (i := (wa5 T x s).1) tw hr9.2.1 ?_) 
      refine Ru_if_eqB (pc := 88) 95 dX12_readWant_88 (by decide) (fun h15 => ?_) (fun h15 => ?_)
      · replace h15 := of_decide_eq_false h15
        refine Ru_iconst (pc := 95) (nI 0) dX12_readWant_95 rfl ?_
        refine Ru_istore (pc := 96) dX12_readWant_96 rfl (by decide) ?_
        refine Ru_iload (pc := 98) dX12_readWant_98 rfl ?_
        refine Ru_if_eqN (pc := 100) 107 dX12_readWant_100 (by decide) (by omega) (fun h16 => ?_) (fun h16 => ?_)
        · have eW : waS T x s = wa5 T x s := if_neg (by
              rintro ⟨y1, y2⟩
              first | exact absurd y2 (by assumption) | omega)
          have eB : bIf T 144 (wa5 T x s) = 0 := if_neg (by
              rintro ⟨y1, y2⟩
              first | exact absurd y2 (by assumption) | omega)
          have hr9 : Y_rd T (waS T x s) M9 := by rw [eW]; exact hr9
          have hb9 := hr9.2.2.2.2
          have zzS : (waS T x s).2 = 0 := by rw [eW]; assumption
          refine Ru_aload_n (pc := 107) dX12_readWant_107 rfl rfl ?_
          refine Ru_getI (pc := 108) dX12_readWant_108 fl_X12_251 rfl rfl ?_
          refine Ru_top hr9.2.2.1 ?_
          refine Ru_if_leN (pc := 111) 115 dX12_readWant_111 (by decide) (by omega) (fun h17 => ?_) (fun h17 => ?_)
          · have z5 : (wa5 T x s).2 = 0 := by
              have zq : (waS T x s).2 = 0 := by assumption
              unfold waS at zq
              rw [sIf_2] at zq
              exact zq
            have z4 : (wa4 T x s).2 = 0 := sCount_0 z5
            have z3 : (wa3 T x s).2 = 0 := sMust_0 z4
            have z2 : (wa2 T x s).2 = 0 := sCount_0 z3
            have z1 : (wa1 T x s).2 = 0 := sMust_0 z2
            have z0o : (sOld T x.2 0 (x.1 0) (wa0 T x s)).2 = 0 := sNext_0 z1
            have z0 : (wa0 T x s).2 = 0 := sOld_0 z0o
            have zb : (if x.1 3 = 8 then sFail 6 s else s).2 = 0 := sNext_0 z0
            have h38 : ¬ x.1 3 = 8 := by
              intro y
              rw [if_pos y] at zb
              unfold sFail at zb
              split at zb
              · cases zb
              · contradiction
            have ev2 : v4 = nI (fN x.2 (tL T (wa0 T x s).1) 0 (x.1 0) - 1) := hv4 z0o
            subst ev2
            have ev3 : v7 = nI (tV T (wa2 T x s).1) := hv7 z3
            subst ev3
            have ev4 : v9 = nI (tV T (wa4 T x s).1) := hv9 z5
            subst ev4
            refine Ru_aload_n (pc := 115) dX12_readWant_115 rfl rfl ?_
            refine Ru_getR (pc := 116) 5 dX12_readWant_116 fl_X12_35 rfl rfl rfl ?_
            refine Ru_sipush (pc := 119) (nI 2707) dX12_readWant_119 rfl ?_
            refine Ru_iload_n (pc := 122) dX12_readWant_122 rfl rfl ?_
            refine Ru_iaddN (pc := 123) dX12_readWant_123 ?_
            refine Ru_iload_n (pc := 124) dX12_readWant_124 rfl rfl ?_
            refine Ru_iast (pc := 125) rfl dX12_readWant_125 rfl (by omega) ?_
            refine Ru_aload_n (pc := 126) dX12_readWant_126 rfl rfl ?_
            refine Ru_getR (pc := 127) 5 dX12_readWant_127 fl_X12_35 rfl rfl rfl ?_
            refine Ru_sipush (pc := 130) (nI 2715) dX12_readWant_130 rfl ?_
            refine Ru_iload_n (pc := 133) dX12_readWant_133 rfl rfl ?_
            refine Ru_iaddN (pc := 134) dX12_readWant_134 ?_
            refine Ru_iload_n (pc := 135) dX12_readWant_135 rfl rfl ?_
            refine Ru_iast (pc := 136) rfl dX12_readWant_136 rfl (by omega) ?_
            refine Ru_aload_n (pc := 137) dX12_readWant_137 rfl rfl ?_
            refine Ru_getR (pc := 138) 5 dX12_readWant_138 fl_X12_35 rfl rfl rfl ?_
            refine Ru_sipush (pc := 141) (nI 2723) dX12_readWant_141 rfl ?_
            refine Ru_iload_n (pc := 144) dX12_readWant_144 rfl rfl ?_
            refine Ru_iaddN (pc := 145) dX12_readWant_145 ?_
            refine Ru_iload (pc := 146) dX12_readWant_146 rfl ?_
            refine Ru_iast (pc := 148) rfl dX12_readWant_148 rfl (by omega) ?_
            refine Ru_aload_n (pc := 149) dX12_readWant_149 rfl rfl ?_
            refine Ru_getR (pc := 150) 5 dX12_readWant_150 fl_X12_35 rfl rfl rfl ?_
            refine Ru_sipush (pc := 153) (nI 2731) dX12_readWant_153 rfl ?_
            refine Ru_iload_n (pc := 156) dX12_readWant_156 rfl rfl ?_
            refine Ru_iaddN (pc := 157) dX12_readWant_157 ?_
            refine Ru_iload (pc := 158) dX12_readWant_158 rfl ?_
            refine Ru_if_eqN (pc := 160) 167 dX12_readWant_160 (by decide) (by omega) (fun h18 => ?_) (fun h18 => ?_)
            · refine Ru_iconst (pc := 167) (nI 0) dX12_readWant_167 rfl ?_
              refine Ru_iast (pc := 168) rfl dX12_readWant_168 rfl (by omega) ?_
              refine Ru_aload_n (pc := 169) dX12_readWant_169 rfl rfl ?_
              refine Ru_getR (pc := 170) 5 dX12_readWant_170 fl_X12_35 rfl rfl rfl ?_
              refine Ru_sipush (pc := 173) (nI 2603) dX12_readWant_173 rfl ?_
              refine Ru_dup2 (pc := 176) dX12_readWant_176 rfl rfl ?_
              refine Ru_iald (pc := 177) dX12_readWant_177 rfl (by omega) ?_
              refine Ru_top ((r_sI_n (by omega)).trans ((r_sI_n (by omega)).trans ((r_sI_n (by omega)).trans ((r_sI_n (by omega)).trans (hb49 3 (by decide)))))) ?_
              refine Ru_iconst (pc := 178) (nI 1) dX12_readWant_178 rfl ?_
              refine Ru_iaddN (pc := 179) dX12_readWant_179 ?_
              refine Ru_iast (pc := 180) rfl dX12_readWant_180 rfl (by omega) ?_
              refine Ru_vret (pc := 181) dX12_readWant_181 rfl ⟨Nat.le_refl _, Nat.le_refl _⟩ ?_
              have eS : waS T x s = waS T x s := rfl
              refine k _ (r_fx.sI rfl (r_fx.sI rfl (r_fx.sI rfl (r_fx.sI rfl (r_fx.sI rfl fx9))))) ⟨fun j hj => ?_, fun j hj => ?_⟩ ?_ (fun _ => ⟨?_, ?_⟩)
              · refine (r_sI_n (by omega)).trans ?_
                refine (r_sI_n (by omega)).trans ?_
                refine (r_sI_n (by omega)).trans ?_
                refine (r_sI_n (by omega)).trans ?_
                refine (r_sI_n (by omega)).trans ?_
                exact hc59 j
              · exact hwk9 j (by omega)
              · rw [eS]
                exact (Y_rd_dp T (waS T x s)).kp (F := []) (A := [5]) (r_fx.sI rfl (r_fx.sI rfl (r_fx.sI rfl (r_fx.sI rfl (r_fx.sI rfl r_fx.rf))))) rfl hr9
              · intro j hj
                unfold waX
                dsimp only
                by_cases a0 : j = 3
                · rw [if_pos a0]
                  rw [r_sI_g, if_pos (by omega)]
                  try rfl
                · rw [if_neg a0]
                  by_cases a1 : j = 107 + x.1 3
                  · rw [if_pos a1]
                    refine (r_sI_n (by omega)).trans ?_
                    refine (r_sI_n (by omega)).trans ?_
                    refine (r_sI_n (by omega)).trans ?_
                    refine (r_sI_n (by omega)).trans ?_
                    rw [r_sI_g, if_pos (by omega)]
                    try rfl
                  · rw [if_neg a1]
                    by_cases a2 : j = 115 + x.1 3
                    · rw [if_pos a2]
                      refine (r_sI_n (by omega)).trans ?_
                      refine (r_sI_n (by omega)).trans ?_
                      refine (r_sI_n (by omega)).trans ?_
                      rw [r_sI_g, if_pos (by omega)]
                      try rfl
                    · rw [if_neg a2]
                      by_cases a3 : j = 123 + x.1 3
                      · rw [if_pos a3]
                        refine (r_sI_n (by omega)).trans ?_
                        refine (r_sI_n (by omega)).trans ?_
                        rw [r_sI_g, if_pos (by omega)]
                        try rfl
                      · rw [if_neg a3]
                        by_cases a4 : j = 131 + x.1 3
                        · rw [if_pos a4]
                          refine (r_sI_n (by omega)).trans ?_
                          rw [r_sI_g, if_pos (by omega)]
                          rw [eB]
                        · rw [if_neg a4]
                          refine (r_sI_n (by omega)).trans ?_
                          refine (r_sI_n (by omega)).trans ?_
                          refine (r_sI_n (by omega)).trans ?_
                          refine (r_sI_n (by omega)).trans ?_
                          refine (r_sI_n (by omega)).trans ?_
                          exact hb49 j hj
              · exact Y_w4_3 hw4 (fun q hq => hwk9 q hq) ((if_neg (by omega)).trans ((if_neg (by omega)).trans ((if_neg (by omega)).trans ((if_neg (by omega)).trans ((if_neg (by omega)).trans rfl))))) ((if_neg (by omega)).trans ((if_neg (by omega)).trans ((if_neg (by omega)).trans ((if_neg (by omega)).trans ((if_neg (by omega)).trans rfl))))) ((if_neg (by omega)).trans ((if_neg (by omega)).trans ((if_neg (by omega)).trans ((if_neg (by omega)).trans ((if_neg (by omega)).trans rfl))))) (Nat.le_trans (Nat.le_of_eq (if_pos rfl)) (by omega))
            · exfalso
              omega
          · exfalso
            omega
        · exfalso
          omega
      · replace h15 := of_decide_eq_true h15
        refine Ru_iconst (pc := 91) (nI 1) dX12_readWant_91 rfl ?_
        refine Ru_goto (pc := 92) 96 dX12_readWant_92 (by decide) ?_
        refine Ru_istore (pc := 96) dX12_readWant_96 rfl (by decide) ?_
        refine Ru_iload (pc := 98) dX12_readWant_98 rfl ?_
        refine Ru_if_eqN (pc := 100) 107 dX12_readWant_100 (by decide) (by omega) (fun h19 => ?_) (fun h19 => ?_)
        · exfalso
          omega
        · refine Ru_aload_n (pc := 103) dX12_readWant_103 rfl rfl ?_
          refine Ru_cv0 (pc := 104) dX12_readWant_104 mv_X12_261 rfl (by decide) (Nat.le_of_ble_eq_true rfl) (c_X12_nextS (s := (wa5 T x s)) tw hr9 (by first | rfl | assumption | omega) (fun M10 gx10 (hr10 : Y_rd T ((wa5 T x s).1 + 1, 0) M10) => ?_)) 
          have fx10 : r_fx [(0, 12), (0, 13), (0, 14), (0, 15), (0, 16), (0, 17), (0, 18), (0, 21)] [5, 6] M M10 := fx9.tr (gx10.mono rfl)
          have hb10 := hr10.2.2.2.2
          have ht10 := tTok_b (tK T ((wa5 T x s).1 + 1))
          have hb410 : Y_b4 x.1 M10 := (Y_b4_dp x.1).kp gx10 rfl hb49
          have hwk10 : ∀ q, ¬ q = 999 → M10.2.1 6 q = M.2.1 6 q := fun q hq => (gx10 6 q rfl).2.1.trans (hwk9 q hq)
          have hc510 : ∀ q, M10.1 5 q = M.1 5 q := fun q => (gx10 5 q rfl).1.trans (hc59 q)
          have eW : waS T x s = ((wa5 T x s).1 + 1, 0) := sIf_t (by assumption) (by assumption)
          have eB : bIf T 144 (wa5 T x s) = 1 := bIf_t (by assumption) (by assumption)
          have hr10 : Y_rd T (waS T x s) M10 := by rw [eW]; exact hr10
          have hb10 := hr10.2.2.2.2
          have zzS : (waS T x s).2 = 0 := by rw [eW]; try rfl
          refine Ru_aload_n (pc := 107) dX12_readWant_107 rfl rfl ?_
          refine Ru_getI (pc := 108) dX12_readWant_108 fl_X12_251 rfl rfl ?_
          refine Ru_top hr10.2.2.1 ?_
          refine Ru_if_leN (pc := 111) 115 dX12_readWant_111 (by decide) (by omega) (fun h20 => ?_) (fun h20 => ?_)
          · have z5 : (wa5 T x s).2 = 0 := by
              have zq : (waS T x s).2 = 0 := by assumption
              unfold waS at zq
              rw [sIf_2] at zq
              exact zq
            have z4 : (wa4 T x s).2 = 0 := sCount_0 z5
            have z3 : (wa3 T x s).2 = 0 := sMust_0 z4
            have z2 : (wa2 T x s).2 = 0 := sCount_0 z3
            have z1 : (wa1 T x s).2 = 0 := sMust_0 z2
            have z0o : (sOld T x.2 0 (x.1 0) (wa0 T x s)).2 = 0 := sNext_0 z1
            have z0 : (wa0 T x s).2 = 0 := sOld_0 z0o
            have zb : (if x.1 3 = 8 then sFail 6 s else s).2 = 0 := sNext_0 z0
            have h38 : ¬ x.1 3 = 8 := by
              intro y
              rw [if_pos y] at zb
              unfold sFail at zb
              split at zb
              · cases zb
              · contradiction
            have ev2 : v4 = nI (fN x.2 (tL T (wa0 T x s).1) 0 (x.1 0) - 1) := hv4 z0o
            subst ev2
            have ev3 : v7 = nI (tV T (wa2 T x s).1) := hv7 z3
            subst ev3
            have ev4 : v9 = nI (tV T (wa4 T x s).1) := hv9 z5
            subst ev4
            refine Ru_aload_n (pc := 115) dX12_readWant_115 rfl rfl ?_
            refine Ru_getR (pc := 116) 5 dX12_readWant_116 fl_X12_35 rfl rfl rfl ?_
            refine Ru_sipush (pc := 119) (nI 2707) dX12_readWant_119 rfl ?_
            refine Ru_iload_n (pc := 122) dX12_readWant_122 rfl rfl ?_
            refine Ru_iaddN (pc := 123) dX12_readWant_123 ?_
            refine Ru_iload_n (pc := 124) dX12_readWant_124 rfl rfl ?_
            refine Ru_iast (pc := 125) rfl dX12_readWant_125 rfl (by omega) ?_
            refine Ru_aload_n (pc := 126) dX12_readWant_126 rfl rfl ?_
            refine Ru_getR (pc := 127) 5 dX12_readWant_127 fl_X12_35 rfl rfl rfl ?_
            refine Ru_sipush (pc := 130) (nI 2715) dX12_readWant_130 rfl ?_
            refine Ru_iload_n (pc := 133) dX12_readWant_133 rfl rfl ?_
            refine Ru_iaddN (pc := 134) dX12_readWant_134 ?_
            refine Ru_iload_n (pc := 135) dX12_readWant_135 rfl rfl ?_
            refine Ru_iast (pc := 136) rfl dX12_readWant_136 rfl (by omega) ?_
            refine Ru_aload_n (pc := 137) dX12_readWant_137 rfl rfl ?_
            refine Ru_getR (pc := 138) 5 dX12_readWant_138 fl_X12_35 rfl rfl rfl ?_
            refine Ru_sipush (pc := 141) (nI 2723) dX12_readWant_141 rfl ?_
            refine Ru_iload_n (pc := 144) dX12_readWant_144 rfl rfl ?_
            refine Ru_iaddN (pc := 145) dX12_readWant_145 ?_
            refine Ru_iload (pc := 146) dX12_readWant_146 rfl ?_
            refine Ru_iast (pc := 148) rfl dX12_readWant_148 rfl (by omega) ?_
            refine Ru_aload_n (pc := 149) dX12_readWant_149 rfl rfl ?_
            refine Ru_getR (pc := 150) 5 dX12_readWant_150 fl_X12_35 rfl rfl rfl ?_
            refine Ru_sipush (pc := 153) (nI 2731) dX12_readWant_153 rfl ?_
            refine Ru_iload_n (pc := 156) dX12_readWant_156 rfl rfl ?_
            refine Ru_iaddN (pc := 157) dX12_readWant_157 ?_
            refine Ru_iload (pc := 158) dX12_readWant_158 rfl ?_
            refine Ru_if_eqN (pc := 160) 167 dX12_readWant_160 (by decide) (by omega) (fun h21 => ?_) (fun h21 => ?_)
            · exfalso
              omega
            · refine Ru_iconst (pc := 163) (nI 1) dX12_readWant_163 rfl ?_
              refine Ru_goto (pc := 164) 168 dX12_readWant_164 (by decide) ?_
              refine Ru_iast (pc := 168) rfl dX12_readWant_168 rfl (by omega) ?_
              refine Ru_aload_n (pc := 169) dX12_readWant_169 rfl rfl ?_
              refine Ru_getR (pc := 170) 5 dX12_readWant_170 fl_X12_35 rfl rfl rfl ?_
              refine Ru_sipush (pc := 173) (nI 2603) dX12_readWant_173 rfl ?_
              refine Ru_dup2 (pc := 176) dX12_readWant_176 rfl rfl ?_
              refine Ru_iald (pc := 177) dX12_readWant_177 rfl (by omega) ?_
              refine Ru_top ((r_sI_n (by omega)).trans ((r_sI_n (by omega)).trans ((r_sI_n (by omega)).trans ((r_sI_n (by omega)).trans (hb410 3 (by decide)))))) ?_
              refine Ru_iconst (pc := 178) (nI 1) dX12_readWant_178 rfl ?_
              refine Ru_iaddN (pc := 179) dX12_readWant_179 ?_
              refine Ru_iast (pc := 180) rfl dX12_readWant_180 rfl (by omega) ?_
              refine Ru_vret (pc := 181) dX12_readWant_181 rfl ⟨Nat.le_refl _, Nat.le_refl _⟩ ?_
              have eS : waS T x s = waS T x s := rfl
              refine k _ (r_fx.sI rfl (r_fx.sI rfl (r_fx.sI rfl (r_fx.sI rfl (r_fx.sI rfl fx10))))) ⟨fun j hj => ?_, fun j hj => ?_⟩ ?_ (fun _ => ⟨?_, ?_⟩)
              · refine (r_sI_n (by omega)).trans ?_
                refine (r_sI_n (by omega)).trans ?_
                refine (r_sI_n (by omega)).trans ?_
                refine (r_sI_n (by omega)).trans ?_
                refine (r_sI_n (by omega)).trans ?_
                exact hc510 j
              · exact hwk10 j (by omega)
              · rw [eS]
                exact (Y_rd_dp T (waS T x s)).kp (F := []) (A := [5]) (r_fx.sI rfl (r_fx.sI rfl (r_fx.sI rfl (r_fx.sI rfl (r_fx.sI rfl r_fx.rf))))) rfl hr10
              · intro j hj
                unfold waX
                dsimp only
                by_cases a0 : j = 3
                · rw [if_pos a0]
                  rw [r_sI_g, if_pos (by omega)]
                  try rfl
                · rw [if_neg a0]
                  by_cases a1 : j = 107 + x.1 3
                  · rw [if_pos a1]
                    refine (r_sI_n (by omega)).trans ?_
                    refine (r_sI_n (by omega)).trans ?_
                    refine (r_sI_n (by omega)).trans ?_
                    refine (r_sI_n (by omega)).trans ?_
                    rw [r_sI_g, if_pos (by omega)]
                    try rfl
                  · rw [if_neg a1]
                    by_cases a2 : j = 115 + x.1 3
                    · rw [if_pos a2]
                      refine (r_sI_n (by omega)).trans ?_
                      refine (r_sI_n (by omega)).trans ?_
                      refine (r_sI_n (by omega)).trans ?_
                      rw [r_sI_g, if_pos (by omega)]
                      try rfl
                    · rw [if_neg a2]
                      by_cases a3 : j = 123 + x.1 3
                      · rw [if_pos a3]
                        refine (r_sI_n (by omega)).trans ?_
                        refine (r_sI_n (by omega)).trans ?_
                        rw [r_sI_g, if_pos (by omega)]
                        try rfl
                      · rw [if_neg a3]
                        by_cases a4 : j = 131 + x.1 3
                        · rw [if_pos a4]
                          refine (r_sI_n (by omega)).trans ?_
                          rw [r_sI_g, if_pos (by omega)]
                          rw [eB]
                        · rw [if_neg a4]
                          refine (r_sI_n (by omega)).trans ?_
                          refine (r_sI_n (by omega)).trans ?_
                          refine (r_sI_n (by omega)).trans ?_
                          refine (r_sI_n (by omega)).trans ?_
                          refine (r_sI_n (by omega)).trans ?_
                          exact hb410 j hj
              · exact Y_w4_3 hw4 (fun q hq => hwk10 q hq) ((if_neg (by omega)).trans ((if_neg (by omega)).trans ((if_neg (by omega)).trans ((if_neg (by omega)).trans ((if_neg (by omega)).trans rfl))))) ((if_neg (by omega)).trans ((if_neg (by omega)).trans ((if_neg (by omega)).trans ((if_neg (by omega)).trans ((if_neg (by omega)).trans rfl))))) ((if_neg (by omega)).trans ((if_neg (by omega)).trans ((if_neg (by omega)).trans ((if_neg (by omega)).trans ((if_neg (by omega)).trans rfl))))) (Nat.le_trans (Nat.le_of_eq (if_pos rfl)) (by omega))
          · exfalso
            omega
