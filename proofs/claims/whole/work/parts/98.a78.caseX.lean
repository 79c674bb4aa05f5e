-- READING: the developers' law: its cases
def lP (lw o k : Nat) : Prop := (o = lw ∧ (k = 4 ∨ k = 5)) ∨ o = lw + 3
def X_lz (lw : Nat) (y : Lq) (M : Mem) : Prop := M.1 lw 4 = nI y.1 ∧ M.1 lw 5 = nI y.2.1 ∧ X_lq lw y M
def lSq (a b : Nat) (y : Lq) : Lq := (y.1 + 1, y.2.1, fun j => if j = 155 + 2 * y.1 then a else if j = 155 + 2 * y.1 + 1 then b else y.2.2 j)
theorem lSt_q {a b : Nat} {y : Lq} {s : Ps} (h : s.2 = 0) : lSt a b y s = lSq a b y := if_pos h
/-- a step more, nothing else -/
def r_os (lw : Nat) (M M' : Mem) : Prop := ∀ o k, ¬ (o = lw ∧ k = 4) → ¬ o = lw + 3 → r_eq3 M M' o k
theorem lP_u {u lw : Nat} (hu : isTown u) (hl : isLaw lw) : ∀ j k, j ≤ 18 → ¬ lP lw (u + j) k := fun j k hj => by
  unfold lP
  unfold isTown at hu
  unfold isLaw at hl
  omega
theorem os_ow {lw : Nat} {M M' : Mem} (h : r_os lw M M') : r_ow (lP lw) M M' := fun o k _ h2 => h o k (fun z => h2 (Or.inl ⟨z.1, Or.inl z.2⟩)) (fun z => h2 (Or.inr z))
theorem os_rd {T : Tx} {cnt lw : Nat} {s : Ps} {M M' : Mem} (hl : isLaw lw) (h : r_os lw M M') (hr : X_rd T cnt s M) : X_rd T cnt s M' := by
  unfold isLaw at hl
  exact X_rd_eq (fun k => h 40 k (by omega) (by omega)) (fun o k h1 h2 => h o k (by omega) (by omega)) hr
theorem lz_fx {lw : Nat} {y : Lq} {M M' : Mem} (hl : isLaw lw) (g : r_fx [(40, 6), (40, 7), (40, 8)] [] M M') (hz : X_lz lw y M) : X_lz lw y M' := by
  have e : ∀ o k, o = lw ∨ o = lw + 3 → r_eq3 M M' o k := fun o k h => r_ow.fx (P := fun _ _ => False) g o k (by unfold isLaw at hl; omega) (fun z => z)
  exact ⟨(e lw 4 (Or.inl rfl)).1.trans hz.1, (e lw 5 (Or.inl rfl)).1.trans hz.2.1, fun i hi => (e (lw + 3) i (Or.inr rfl)).1.trans (hz.2.2 i hi)⟩
theorem nCd_p {a : Nat} (h : a < 3) : nCd a 0 = a * 2 ^ 8 ||| 0 := by
  unfold nCd
  rw [if_pos h, Nat.or_zero]
theorem nCd_h {k : Nat} (h : k < 8) : nCd 3 k = 3 * 2 ^ 8 ||| 2 ^ k := by
  have : ∀ k, k < 8 → nCd 3 k = 3 * 2 ^ 8 ||| 2 ^ k := by decide +kernel
  exact this k h
theorem or_10 : ∀ r, r < 128 → 1024 + r = 4 * 2 ^ 8 ||| r := by decide +kernel
theorem nCd_d {st a : Nat} (h1 : 4 ≤ st) (h2 : st ≤ 6) : nCd st a = 4 * 2 ^ 8 ||| nRs st a := by
  unfold nCd
  rw [if_neg (by omega), if_neg (by omega), if_pos (by omega)]
  exact or_10 _ (nRs_lt st a)
def dyF (K n r : Nat) : Bool := if K = 60 then decide (r < n) else if K = 62 then decide (n < r) else decide (r = n)
theorem dA46 (K : Nat) : 4 ≤ (if K = 60 then 4 else if K = 62 then 5 else 6 : Nat) ∧ (if K = 60 then 4 else if K = 62 then 5 else 6 : Nat) ≤ 6 := by
  split
  · omega
  · split <;> omega
theorem nCd_7 : nCd 7 0 = 5 * 2 ^ 8 ||| 0 := by decide +kernel
theorem nCd_8 : nCd 8 0 = 6 * 2 ^ 8 ||| 0 := by decide +kernel
theorem nCd_9 : nCd 9 0 = 7 * 2 ^ 8 ||| 0 := by decide +kernel

theorem c_X2_add {Q : Rq} {M : Mem} {lw a b op arg : Nat} {y : Lq} (hl : isLaw lw) (hz : X_lz lw y M) (hn : y.1 ≤ 200) (ha : a ≤ 7) (hcd : nCd op arg = a * 2 ^ 8 ||| b) (k : ∀ M', r_os lw M M' → X_lz lw (lSq op arg y) M' → Q none GX M') : Ca 0 mt_X2_add 0 0 [.ref lw, .int (nI a), .int (nI b)] GX M Q := by
  refine Ca_of rfl (Nat.le_of_ble_eq_true rfl) ?_
  refine Ru_aload_n (pc := 0) dX2_add_0 rfl rfl ?_
  refine Ru_getI (pc := 1) dX2_add_1 fl_X2_25 (shLaw_0 hl) rfl ?_
  refine Ru_top hz.1 ?_
  refine Ru_aload_n (pc := 4) dX2_add_4 rfl rfl ?_
  refine Ru_getR (pc := 5) (lw + 3) dX2_add_5 fl_X2_18 (shLaw_0 hl) rfl (rfX_of (o := lw) (j := 3) (shLaw_0 hl) rfl) ?_
  refine Ru_alen (pc := 8) dX2_add_8 (shLaw_3 hl) (by decide) ?_
  refine Ru_icmp_geN (pc := 9) 37 dX2_add_9 (by decide) (by omega) (fun h1 => ?_) (fun h1 => ?_)
  · exfalso
    omega
  · refine Ru_aload_n (pc := 12) dX2_add_12 rfl rfl ?_
    refine Ru_getR (pc := 13) (lw + 3) dX2_add_13 fl_X2_18 (shLaw_0 hl) rfl (rfX_of (o := lw) (j := 3) (shLaw_0 hl) rfl) ?_
    refine Ru_aload_n (pc := 16) dX2_add_16 rfl rfl ?_
    refine Ru_getI (pc := 17) dX2_add_17 fl_X2_25 (shLaw_0 hl) rfl ?_
    refine Ru_top hz.1 ?_
    refine Ru_iload_n (pc := 20) dX2_add_20 rfl rfl ?_
    refine Ru_bipush (pc := 21) (nI 8) dX2_add_21 rfl ?_
    refine Ru_ishlN (pc := 23) dX2_add_23 (by omega) ?_
    refine Ru_iload_n (pc := 24) dX2_add_24 rfl rfl ?_
    refine Ru_iorN (pc := 25) dX2_add_25 ?_
    refine Ru_iast (pc := 26) rfl dX2_add_26 (shLaw_3 hl) (by omega) ?_
    refine Ru_aload_n (pc := 27) dX2_add_27 rfl rfl ?_
    refine Ru_dup (pc := 28) dX2_add_28 rfl ?_
    refine Ru_getI (pc := 29) dX2_add_29 fl_X2_25 (shLaw_0 hl) rfl ?_
    refine Ru_top ((r_sI_n (by omega)).trans hz.1) ?_
    refine Ru_iconst (pc := 32) (nI 1) dX2_add_32 rfl ?_
    refine Ru_iaddN (pc := 33) dX2_add_33 ?_
    refine Ru_putI (pc := 34) rfl dX2_add_34 fl_X2_25 (shLaw_0 hl) ?_
    refine Ru_vret (pc := 37) dX2_add_37 rfl ⟨Nat.le_refl _, Nat.le_refl _⟩ ?_
    refine k _ (fun o k h1 h2 => ⟨(r_sI_n (by omega)).trans (r_sI_n (by omega)), rfl, rfl⟩) ⟨r_sI_s, (r_sI_n (by omega)).trans ((r_sI_n (by omega)).trans hz.2.1), fun i hi => ?_⟩
    have hi2 : i < y.1 + 1 := hi
    refine (r_sI_n (by omega)).trans ?_
    show _ = nI (nCd (if 155 + 2 * i = 155 + 2 * y.1 then op else if 155 + 2 * i = 155 + 2 * y.1 + 1 then arg else y.2.2 (155 + 2 * i)) (if 155 + 2 * i + 1 = 155 + 2 * y.1 then op else if 155 + 2 * i + 1 = 155 + 2 * y.1 + 1 then arg else y.2.2 (155 + 2 * i + 1)))
    by_cases e : i = y.1
    · subst e
      rw [if_pos rfl, if_neg (by omega), if_pos rfl, hcd]
      exact r_sI_s
    · rw [if_neg (by omega), if_neg (by omega), if_neg (by omega), if_neg (by omega)]
      exact (r_sI_n (by omega)).trans (hz.2.2 i (by omega))

theorem l_X2_day {Q : Rq} {M : Mem} {lw K n : Nat} (hl : isLaw lw) (hK9 : K < 1000) (hn9 : n < 1000) (k : Ru 2 mt_X2_buildDay r_z 134 [(0, some (.ref lw)), (1, some (.ref 40)), (4, some (.int (nI (orB (dyF K n) 7))))] [] GX M Q) : ∀ (zw : Nat) (q : Nat) (set : Nat), 7 - q = zw → (q ≤ 7) → (set = orB (dyF K n) q) → Ru 2 mt_X2_buildDay r_z 54 [(0, some (.ref lw)), (1, some (.ref 40)), (2, some (.int (nI K))), (3, some (.int (nI n))), (4, some (.int (nI set))), (5, some (.int (nI q)))] [] GX M Q := by
  intro zw
  induction zw using Nat.strongRecOn with
  | ind zw ih =>
    intro q set hw hq hset
    subst hw
    refine Ru_iload (pc := 54) dX2_buildDay_54 rfl ?_
    refine Ru_bipush (pc := 56) (nI 7) dX2_buildDay_56 rfl ?_
    refine Ru_icmp_geN (pc := 58) 134 dX2_buildDay_58 (by decide) (by omega) (fun h1 => ?_) (fun h1 => ?_)
    · have e7 : q = 7 := by omega
      subst e7
      rw [hset]
      exact Ru_weak k rfl
    · refine Ru_iload_n (pc := 61) dX2_buildDay_61 rfl rfl ?_
      refine Ru_bipush (pc := 62) (nI 60) dX2_buildDay_62 rfl ?_
      refine Ru_icmp_neN (pc := 64) 81 dX2_buildDay_64 (by decide) (by omega) (fun h2 => ?_) (fun h2 => ?_)
      · refine Ru_iload_n (pc := 81) dX2_buildDay_81 rfl rfl ?_
        refine Ru_bipush (pc := 82) (nI 62) dX2_buildDay_82 rfl ?_
        refine Ru_icmp_neN (pc := 84) 101 dX2_buildDay_84 (by decide) (by omega) (fun h3 => ?_) (fun h3 => ?_)
        · refine Ru_iload (pc := 101) dX2_buildDay_101 rfl ?_
          refine Ru_iload_n (pc := 103) dX2_buildDay_103 rfl rfl ?_
          refine Ru_icmp_neN (pc := 104) 111 dX2_buildDay_104 (by decide) (by omega) (fun h4 => ?_) (fun h4 => ?_)
          · refine Ru_iconst (pc := 111) (nI 0) dX2_buildDay_111 rfl ?_
            refine Ru_istore (pc := 112) dX2_buildDay_112 rfl (by decide) ?_
            refine Ru_iload (pc := 114) dX2_buildDay_114 rfl ?_
            refine Ru_if_eqN (pc := 116) 128 dX2_buildDay_116 (by decide) (by omega) (fun h5 => ?_) (fun h5 => ?_)
            · refine Ru_iincN (pc := 128) 1 dX2_buildDay_128 rfl rfl rfl (by decide) ?_
              refine Ru_goto (pc := 131) 54 dX2_buildDay_131 (by decide) ?_
              have ep : (dyF K n) q = false := by
                unfold dyF
                rw [if_neg (by assumption), if_neg (by assumption)]
                exact decide_eq_false (by omega)
              refine Ru_weak (ih (7 - (q + 1)) (by omega) (q + 1) set rfl (by omega) ?_) rfl
              rw [orB, ep, if_neg (by decide)]
              exact hset
            · exfalso
              omega
          · refine Ru_iconst (pc := 107) (nI 1) dX2_buildDay_107 rfl ?_
            refine Ru_goto (pc := 108) 112 dX2_buildDay_108 (by decide) ?_
            refine Ru_istore (pc := 112) dX2_buildDay_112 rfl (by decide) ?_
            refine Ru_iload (pc := 114) dX2_buildDay_114 rfl ?_
            refine Ru_if_eqN (pc := 116) 128 dX2_buildDay_116 (by decide) (by omega) (fun h6 => ?_) (fun h6 => ?_)
            · exfalso
              omega
            · refine Ru_iload (pc := 119) dX2_buildDay_119 rfl ?_
              refine Ru_iconst (pc := 121) (nI 1) dX2_buildDay_121 rfl ?_
              refine Ru_iload (pc := 122) dX2_buildDay_122 rfl ?_
              refine Ru_ishl1N (pc := 124) dX2_buildDay_124 (by omega) ?_
              refine Ru_iorN (pc := 125) dX2_buildDay_125 ?_
              refine Ru_istore (pc := 126) dX2_buildDay_126 rfl (by decide) ?_
              refine Ru_iincN (pc := 128) 1 dX2_buildDay_128 rfl rfl rfl (by decide) ?_
              refine Ru_goto (pc := 131) 54 dX2_buildDay_131 (by decide) ?_
              have ep : (dyF K n) q = true := by
                unfold dyF
                rw [if_neg (by assumption), if_neg (by assumption)]
                exact decide_eq_true (by omega)
              refine Ru_weak (ih (7 - (q + 1)) (by omega) (q + 1) (set ||| (2 ^ q)) rfl (by omega) ?_) rfl
              rw [orB, ep, if_pos rfl]
              rw [hset]
        · refine Ru_iload (pc := 87) dX2_buildDay_87 rfl ?_
          refine Ru_iload_n (pc := 89) dX2_buildDay_89 rfl rfl ?_
          refine Ru_icmp_leN (pc := 90) 97 dX2_buildDay_90 (by decide) (by omega) (fun h7 => ?_) (fun h7 => ?_)
          · refine Ru_iconst (pc := 97) (nI 0) dX2_buildDay_97 rfl ?_
            refine Ru_goto (pc := 98) 112 dX2_buildDay_98 (by decide) ?_
            refine Ru_istore (pc := 112) dX2_buildDay_112 rfl (by decide) ?_
            refine Ru_iload (pc := 114) dX2_buildDay_114 rfl ?_
            refine Ru_if_eqN (pc := 116) 128 dX2_buildDay_116 (by decide) (by omega) (fun h8 => ?_) (fun h8 => ?_)
            · refine Ru_iincN (pc := 128) 1 dX2_buildDay_128 rfl rfl rfl (by decide) ?_
              refine Ru_goto (pc := 131) 54 dX2_buildDay_131 (by decide) ?_
              have ep : (dyF K n) q = false := by
                unfold dyF
                rw [if_neg (by assumption), if_pos (by assumption)]
                exact decide_eq_false (by omega)
              refine Ru_weak (ih (7 - (q + 1)) (by omega) (q + 1) set rfl (by omega) ?_) rfl
              rw [orB, ep, if_neg (by decide)]
              exact hset
            · exfalso
              omega
          · refine Ru_iconst (pc := 93) (nI 1) dX2_buildDay_93 rfl ?_
            refine Ru_goto (pc := 94) 112 dX2_buildDay_94 (by decide) ?_
            refine Ru_istore (pc := 112) dX2_buildDay_112 rfl (by decide) ?_
            refine Ru_iload (pc := 114) dX2_buildDay_114 rfl ?_
            refine Ru_if_eqN (pc := 116) 128 dX2_buildDay_116 (by decide) (by omega) (fun h9 => ?_) (fun h9 => ?_)
            · exfalso
              omega
            · refine Ru_iload (pc := 119) dX2_buildDay_119 rfl ?_
              refine Ru_iconst (pc := 121) (nI 1) dX2_buildDay_121 rfl ?_
              refine Ru_iload (pc := 122) dX2_buildDay_122 rfl ?_
              refine Ru_ishl1N (pc := 124) dX2_buildDay_124 (by omega) ?_
              refine Ru_iorN (pc := 125) dX2_buildDay_125 ?_
              refine Ru_istore (pc := 126) dX2_buildDay_126 rfl (by decide) ?_
              refine Ru_iincN (pc := 128) 1 dX2_buildDay_128 rfl rfl rfl (by decide) ?_
              refine Ru_goto (pc := 131) 54 dX2_buildDay_131 (by decide) ?_
              have ep : (dyF K n) q = true := by
                unfold dyF
                rw [if_neg (by assumption), if_pos (by assumption)]
                exact decide_eq_true (by omega)
              refine Ru_weak (ih (7 - (q + 1)) (by omega) (q + 1) (set ||| (2 ^ q)) rfl (by omega) ?_) rfl
              rw [orB, ep, if_pos rfl]
              rw [hset]
      · refine Ru_iload (pc := 67) dX2_buildDay_67 rfl ?_
        refine Ru_iload_n (pc := 69) dX2_buildDay_69 rfl rfl ?_
        refine Ru_icmp_geN (pc := 70) 77 dX2_buildDay_70 (by decide) (by omega) (fun h10 => ?_) (fun h10 => ?_)
        · refine Ru_iconst (pc := 77) (nI 0) dX2_buildDay_77 rfl ?_
          refine Ru_goto (pc := 78) 112 dX2_buildDay_78 (by decide) ?_
          refine Ru_istore (pc := 112) dX2_buildDay_112 rfl (by decide) ?_
          refine Ru_iload (pc := 114) dX2_buildDay_114 rfl ?_
          refine Ru_if_eqN (pc := 116) 128 dX2_buildDay_116 (by decide) (by omega) (fun h11 => ?_) (fun h11 => ?_)
          · refine Ru_iincN (pc := 128) 1 dX2_buildDay_128 rfl rfl rfl (by decide) ?_
            refine Ru_goto (pc := 131) 54 dX2_buildDay_131 (by decide) ?_
            have ep : (dyF K n) q = false := by
              unfold dyF
              rw [if_pos (by assumption)]
              exact decide_eq_false (by omega)
            refine Ru_weak (ih (7 - (q + 1)) (by omega) (q + 1) set rfl (by omega) ?_) rfl
            rw [orB, ep, if_neg (by decide)]
            exact hset
          · exfalso
            omega
        · refine Ru_iconst (pc := 73) (nI 1) dX2_buildDay_73 rfl ?_
          refine Ru_goto (pc := 74) 112 dX2_buildDay_74 (by decide) ?_
          refine Ru_istore (pc := 112) dX2_buildDay_112 rfl (by decide) ?_
          refine Ru_iload (pc := 114) dX2_buildDay_114 rfl ?_
          refine Ru_if_eqN (pc := 116) 128 dX2_buildDay_116 (by decide) (by omega) (fun h12 => ?_) (fun h12 => ?_)
          · exfalso
            omega
          · refine Ru_iload (pc := 119) dX2_buildDay_119 rfl ?_
            refine Ru_iconst (pc := 121) (nI 1) dX2_buildDay_121 rfl ?_
            refine Ru_iload (pc := 122) dX2_buildDay_122 rfl ?_
            refine Ru_ishl1N (pc := 124) dX2_buildDay_124 (by omega) ?_
            refine Ru_iorN (pc := 125) dX2_buildDay_125 ?_
            refine Ru_istore (pc := 126) dX2_buildDay_126 rfl (by decide) ?_
            refine Ru_iincN (pc := 128) 1 dX2_buildDay_128 rfl rfl rfl (by decide) ?_
            refine Ru_goto (pc := 131) 54 dX2_buildDay_131 (by decide) ?_
            have ep : (dyF K n) q = true := by
              unfold dyF
              rw [if_pos (by assumption)]
              exact decide_eq_true (by omega)
            refine Ru_weak (ih (7 - (q + 1)) (by omega) (q + 1) (set ||| (2 ^ q)) rfl (by omega) ?_) rfl
            rw [orB, ep, if_pos rfl]
            rw [hset]

theorem c_X2_buildHere {Q : Rq} {M : Mem} {T : Tx} {cnt u lw : Nat} {s : Ps} {x : St9} {y : Lq} (tw : Tw T) (hu : isTown u) (hl : isLaw lw) (wf : Wf x.1) (bw : X_bw u x M) (hr : X_rd T cnt s M) (h0 : s.2 = 0) (hz : X_lz lw y M) (hn : y.1 ≤ 150) (k : ∀ M', r_ow (lP lw) M M' → X_rd T cnt (sNext (sOld T x.2 0 (x.1 0) s)) M' → ((sNext (sOld T x.2 0 (x.1 0) s)).2 = 0 → X_lz lw (lSq 3 (fN x.2 (tL T s.1) 0 (x.1 0) - 1) y) M') → Q (some (.int (r_b (decide ((sNext (sOld T x.2 0 (x.1 0) s)).2 = 0))))) GX M') : Ca 2 mt_X2_buildHere 0 0 [.ref lw, .ref 40, .ref (u + 1)] GX M Q := by
  refine Ca_of rfl (Nat.le_of_ble_eq_true rfl) ?_
  have npu := lP_u hu hl
  have cw : r_ow (lP lw) M M := fun _ _ _ _ => ⟨rfl, rfl, rfl⟩
  have hx12 : x.1 0 ≤ 12 := Nat.le_trans wf.1.1 (by decide)
  refine Ru_aload_n (pc := 0) dX2_buildHere_0 rfl rfl ?_
  refine Ru_aload_n (pc := 1) dX2_buildHere_1 rfl rfl ?_
  refine Ru_iconst (pc := 2) (nI 0) dX2_buildHere_2 rfl ?_
  refine Ru_cv2 (pc := 3) dX2_buildHere_3 mv_X2_40 rfl (by decide) (Nat.le_of_ble_eq_true rfl) (c_X8_named0 (s := s) (W := x.2) (b := 0) (n := x.1 0) tw hr h0 (isNames_t hu).1 ((cw (u + 1) 2 (n40 hu (by decide)) (npu 1 2 (by decide))).1.trans bw.1.1) hx12 (fun k hk => ⟨(cw (u + 1 + 1) k (n40 (j := 2) hu (by decide)) (npu 2 k (by decide))).2.1.trans (bw.2.1 k hk).1, (bw.2.1 k hk).2⟩) (fun M2 gx2 (hr2 : X_rd T cnt (sNext (sOld T x.2 0 (x.1 0) s)) M2) => ?_)) 
  have cw2 := cw.fx1 (gx2.mono rfl)
  have hz2 := lz_fx hl (gx2.mono rfl) hz
  refine Ru_istore_n (pc := 6) dX2_buildHere_6 rfl rfl (by decide) ?_
  refine Ru_iload_n (pc := 7) dX2_buildHere_7 rfl rfl ?_
  refine Ru_iconst (pc := 8) (-1) dX2_buildHere_8 rfl ?_
  refine Ru_icmp_neT (pc := 9) 14 dX2_buildHere_9 (by decide) (fun h1 => ?_) (fun h1 => ?_)
  · have hne := h1
    have hzo : (sNext (sOld T x.2 0 (x.1 0) s)).2 = 0 := Classical.byContradiction (fun q => hne ((numb_iff _ (show (fN x.2 (tL T s.1) 0 (x.1 0) - 1) < 2147483648 by have := fN_le x.2 (tL T s.1) 0 (x.1 0); omega)).mpr q))
    refine Ru_weak (L' := [(0, some (.ref lw)), (1, some (.ref 40)), (2, some (.ref (u + 1))), (3, some (.int (nI (fN x.2 (tL T s.1) 0 (x.1 0) - 1))))]) ?_ (by rw [if_pos hzo]; rfl)
    have hk8 : (fN x.2 (tL T s.1) 0 (x.1 0) - 1) < 8 := by
      have h1 := fN_le x.2 (tL T s.1) 0 (x.1 0)
      have h2 := wf.1.1
      have h3 := (sOld_ok (sNext_0 hzo)).2.2.2
      omega
    refine Ru_aload_n (pc := 14) dX2_buildHere_14 rfl rfl ?_
    refine Ru_iconst (pc := 15) (nI 3) dX2_buildHere_15 rfl ?_
    refine Ru_iconst (pc := 16) (nI 1) dX2_buildHere_16 rfl ?_
    refine Ru_iload_n (pc := 17) dX2_buildHere_17 rfl rfl ?_
    refine Ru_ishl1N (pc := 18) dX2_buildHere_18 (by omega) ?_
    refine Ru_cv2 (pc := 19) dX2_buildHere_19 mv_X2_55 (shLaw_0 hl) (by decide) (Nat.le_of_ble_eq_true rfl) (c_X2_add (op := 3) (arg := (fN x.2 (tL T s.1) 0 (x.1 0) - 1)) (y := y) hl hz2 (Nat.le_trans hn (by decide)) (by first | decide | omega) (nCd_h hk8) (fun M3 gx3 hz3 => ?_)) 
    have cw3 := cw2.tr (os_ow gx3)
    have hr3 := os_rd hl gx3 hr2
    refine Ru_iconst (pc := 22) (nI 1) dX2_buildHere_22 rfl ?_
    refine Ru_zret (pc := 23) dX2_buildHere_23 rfl ⟨Nat.le_refl _, Nat.le_refl _⟩ (Or.inr rfl) ?_
    exact r_qe (r_b_t (decide_eq_true hzo)) (k M3 cw3 hr3 (fun _ => hz3))
  · have heq := h1
    refine Ru_iconst (pc := 12) (nI 0) dX2_buildHere_12 rfl ?_
    refine Ru_zret (pc := 13) dX2_buildHere_13 rfl ⟨Nat.le_refl _, Nat.le_refl _⟩ (Or.inl rfl) ?_
    have hzf : ¬ (sNext (sOld T x.2 0 (x.1 0) s)).2 = 0 := (numb_iff _ (show (fN x.2 (tL T s.1) 0 (x.1 0) - 1) < 2147483648 by have := fN_le x.2 (tL T s.1) 0 (x.1 0); omega)).mp heq
    exact r_qe (r_b_f (decide_eq_false hzf)) (k M2 cw2 hr2 (fun q => absurd q hzf))

theorem c_X2_buildDay {Q : Rq} {M : Mem} {T : Tx} {cnt lw : Nat} {s : Ps} {y : Lq} (tw : Tw T) (hl : isLaw lw) (hr : X_rd T cnt s M) (h0 : s.2 = 0) (hz : X_lz lw y M) (hn : y.1 ≤ 150) (k : ∀ M', r_ow (lP lw) M M' → X_rd T cnt (sCount T 0 6 (sMust T (lcM (tK T s.1)) s)) M' → ((sCount T 0 6 (sMust T (lcM (tK T s.1)) s)).2 = 0 → X_lz lw (lSq (if tK T s.1 = 60 then 4 else if tK T s.1 = 62 then 5 else 6) (tV T (s.1 + 1)) y) M') → Q (some (.int (r_b (decide ((sCount T 0 6 (sMust T (lcM (tK T s.1)) s)).2 = 0))))) GX M') : Ca 2 mt_X2_buildDay 0 0 [.ref lw, .ref 40] GX M Q := by
  refine Ca_of rfl (Nat.le_of_ble_eq_true rfl) ?_
  have cw : r_ow (lP lw) M M := fun _ _ _ _ => ⟨rfl, rfl, rfl⟩
  refine Ru_aload_n (pc := 0) dX2_buildDay_0 rfl rfl ?_
  refine Ru_cv0 (pc := 1) dX2_buildDay_1 mv_X2_34 rfl (by decide) (Nat.le_of_ble_eq_true rfl) (c_X8_kind (s := s) tw hr h0 ?_) 
  refine Ru_istore_n (pc := 4) dX2_buildDay_4 rfl rfl (by decide) ?_
  refine Ru_iload_n (pc := 5) dX2_buildDay_5 rfl rfl ?_
  refine Ru_bipush (pc := 6) (nI 60) dX2_buildDay_6 rfl ?_
  refine Ru_icmp_eqN (pc := 8) 29 dX2_buildDay_8 (by decide) (by have := tK_155 T s.1; omega) (fun h1 => ?_) (fun h1 => ?_)
  · refine Ru_aload_n (pc := 29) dX2_buildDay_29 rfl rfl ?_
    refine Ru_cv0 (pc := 30) dX2_buildDay_30 mv_X2_59 rfl (by decide) (Nat.le_of_ble_eq_true rfl) (c_X8_next (s := s) tw hr h0 (show ¬ tK T s.1 = 0 by omega) (fun M2 gx2 (hr2 : X_rd T cnt (s.1 + 1, 0) M2) => ?_)) 
    have cw2 := cw.fx1 (gx2.mono rfl)
    have hz2 := lz_fx hl (gx2.mono rfl) hz
    refine Ru_aload_n (pc := 33) dX2_buildDay_33 rfl rfl ?_
    refine Ru_iconst (pc := 34) (nI 0) dX2_buildDay_34 rfl ?_
    refine Ru_bipush (pc := 35) (nI 6) dX2_buildDay_35 rfl ?_
    refine Ru_cv2 (pc := 37) dX2_buildDay_37 mv_X2_77 rfl (by decide) (Nat.le_of_ble_eq_true rfl) (c_X8_number (s := (s.1 + 1, 0)) (lo := 0) (hi := 6) tw hr2 rfl (by decide) (fun M3 gx3 (hr3 : X_rd T cnt (sCount T 0 6 (s.1 + 1, 0)) M3) => ?_)) 
    have cw3 := cw2.fx1 (gx3.mono rfl)
    have hz3 := lz_fx hl (gx3.mono rfl) hz2
    refine Ru_istore_n (pc := 40) dX2_buildDay_40 rfl rfl (by decide) ?_
    refine Ru_iload_n (pc := 41) dX2_buildDay_41 rfl rfl ?_
    refine Ru_iconst (pc := 42) (-1) dX2_buildDay_42 rfl ?_
    refine Ru_icmp_neT (pc := 43) 48 dX2_buildDay_43 (by decide) (fun h2 => ?_) (fun h2 => ?_)
    · have hne := h2
      have eM : lcM (tK T s.1) = true := by
        unfold lcM
        exact decide_eq_true (by omega)
      have eD : (sCount T 0 6 (sMust T (lcM (tK T s.1)) s)) = (sCount T 0 6 (s.1 + 1, 0)) := by
        rw [eM]
        exact congrArg (sCount T 0 6) (if_pos h0)
      have hv8 : tV T (s.1 + 1) < 2147483648 ∨ ¬ (sCount T 0 6 (s.1 + 1, 0)).2 = 0 := by
        by_cases z : (sCount T 0 6 (s.1 + 1, 0)).2 = 0
        · have := (sCount_ok z).2.2.1.2
          dsimp only at this
          exact Or.inl (by omega)
        · exact Or.inr z
      have hzo : (sCount T 0 6 (s.1 + 1, 0)).2 = 0 := Classical.byContradiction (fun q => hne (by rw [if_neg q]))
      refine Ru_weak (L' := [(0, some (.ref lw)), (1, some (.ref 40)), (2, some (.int (nI (tK T s.1)))), (3, some (.int (nI (tV T (s.1 + 1)))))]) ?_ (by rw [if_pos hzo]; rfl)
      have hv6 : tV T (s.1 + 1) ≤ 6 := (sCount_ok hzo).2.2.1.2
      refine Ru_iconst (pc := 48) (nI 0) dX2_buildDay_48 rfl ?_
      refine Ru_istore (pc := 49) dX2_buildDay_49 rfl (by decide) ?_
      refine Ru_iconst (pc := 51) (nI 0) dX2_buildDay_51 rfl ?_
      refine Ru_istore (pc := 52) dX2_buildDay_52 rfl (by decide) ?_
      refine Ru_weak (l_X2_day (K := (tK T s.1)) (n := (tV T (s.1 + 1))) hl (by have := tK_155 T s.1; omega) (by omega) ?_ (7 - 0) 0 0 rfl (by decide) rfl) rfl
      have hcd9 : nCd (if tK T s.1 = 60 then 4 else if tK T s.1 = 62 then 5 else 6) (tV T (s.1 + 1)) = 4 * 2 ^ 8 ||| (orB (dyF (tK T s.1) (tV T (s.1 + 1))) 7) := by
        have h46 := dA46 (tK T s.1)
        rw [nCd_d h46.1 h46.2]
        refine congrArg (fun f => 4 * 2 ^ 8 ||| orB f 7) (funext fun r => ?_)
        unfold dyF
        by_cases e1 : tK T s.1 = 60
        · rw [if_pos e1, if_pos rfl, if_pos e1]
        · rw [if_neg e1, if_neg e1]
          by_cases e2 : tK T s.1 = 62
          · rw [if_pos e2, if_neg (by decide), if_pos rfl, if_pos e2]
          · rw [if_neg e2, if_neg (by decide), if_neg (by decide), if_neg e2]
      refine Ru_aload_n (pc := 134) dX2_buildDay_134 rfl rfl ?_
      refine Ru_iconst (pc := 135) (nI 4) dX2_buildDay_135 rfl ?_
      refine Ru_iload (pc := 136) dX2_buildDay_136 rfl ?_
      refine Ru_cv2 (pc := 138) dX2_buildDay_138 mv_X2_55 (shLaw_0 hl) (by decide) (Nat.le_of_ble_eq_true rfl) (c_X2_add (op := (if tK T s.1 = 60 then 4 else if tK T s.1 = 62 then 5 else 6)) (arg := (tV T (s.1 + 1))) (y := y) hl hz3 (Nat.le_trans hn (by decide)) (by first | decide | omega) hcd9 (fun M4 gx4 hz4 => ?_)) 
      have cw4 := cw3.tr (os_ow gx4)
      have hr4 := os_rd hl gx4 hr3
      refine Ru_iconst (pc := 141) (nI 1) dX2_buildDay_141 rfl ?_
      refine Ru_zret (pc := 142) dX2_buildDay_142 rfl ⟨Nat.le_refl _, Nat.le_refl _⟩ (Or.inr rfl) ?_
      rw [eD] at k
      exact r_qe (r_b_t (decide_eq_true hzo)) (k M4 cw4 hr4 (fun _ => hz4))
    · have heq := h2
      refine Ru_iconst (pc := 46) (nI 0) dX2_buildDay_46 rfl ?_
      refine Ru_zret (pc := 47) dX2_buildDay_47 rfl ⟨Nat.le_refl _, Nat.le_refl _⟩ (Or.inl rfl) ?_
      have eM : lcM (tK T s.1) = true := by
        unfold lcM
        exact decide_eq_true (by omega)
      have eD : (sCount T 0 6 (sMust T (lcM (tK T s.1)) s)) = (sCount T 0 6 (s.1 + 1, 0)) := by
        rw [eM]
        exact congrArg (sCount T 0 6) (if_pos h0)
      have hzf : ¬ (sCount T 0 6 (s.1 + 1, 0)).2 = 0 := fun q => by
        have hv6 := (sCount_ok q).2.2.1.2
        dsimp only at hv6
        exact (numb_iff _ (show tV T (s.1 + 1) < 2147483648 by omega)).mp heq q
      rw [eD] at k
      exact r_qe (r_b_f (decide_eq_false hzf)) (k M3 cw3 hr3 (fun q => absurd q hzf))
  · refine Ru_iload_n (pc := 11) dX2_buildDay_11 rfl rfl ?_
    refine Ru_bipush (pc := 12) (nI 62) dX2_buildDay_12 rfl ?_
    refine Ru_icmp_eqN (pc := 14) 29 dX2_buildDay_14 (by decide) (by have := tK_155 T s.1; omega) (fun h3 => ?_) (fun h3 => ?_)
    · refine Ru_aload_n (pc := 29) dX2_buildDay_29 rfl rfl ?_
      refine Ru_cv0 (pc := 30) dX2_buildDay_30 mv_X2_59 rfl (by decide) (Nat.le_of_ble_eq_true rfl) (c_X8_next (s := s) tw hr h0 (show ¬ tK T s.1 = 0 by omega) (fun M2 gx2 (hr2 : X_rd T cnt (s.1 + 1, 0) M2) => ?_)) 
      have cw2 := cw.fx1 (gx2.mono rfl)
      have hz2 := lz_fx hl (gx2.mono rfl) hz
      refine Ru_aload_n (pc := 33) dX2_buildDay_33 rfl rfl ?_
      refine Ru_iconst (pc := 34) (nI 0) dX2_buildDay_34 rfl ?_
      refine Ru_bipush (pc := 35) (nI 6) dX2_buildDay_35 rfl ?_
      refine Ru_cv2 (pc := 37) dX2_buildDay_37 mv_X2_77 rfl (by decide) (Nat.le_of_ble_eq_true rfl) (c_X8_number (s := (s.1 + 1, 0)) (lo := 0) (hi := 6) tw hr2 rfl (by decide) (fun M3 gx3 (hr3 : X_rd T cnt (sCount T 0 6 (s.1 + 1, 0)) M3) => ?_)) 
      have cw3 := cw2.fx1 (gx3.mono rfl)
      have hz3 := lz_fx hl (gx3.mono rfl) hz2
      refine Ru_istore_n (pc := 40) dX2_buildDay_40 rfl rfl (by decide) ?_
      refine Ru_iload_n (pc := 41) dX2_buildDay_41 rfl rfl ?_
      refine Ru_iconst (pc := 42) (-1) dX2_buildDay_42 rfl ?_
      refine Ru_icmp_neT (pc := 43) 48 dX2_buildDay_43 (by decide) (fun h4 => ?_) (fun h4 => ?_)
      · have hne := h4
        have eM : lcM (tK T s.1) = true := by
          unfold lcM
          exact decide_eq_true (by omega)
        have eD : (sCount T 0 6 (sMust T (lcM (tK T s.1)) s)) = (sCount T 0 6 (s.1 + 1, 0)) := by
          rw [eM]
          exact congrArg (sCount T 0 6) (if_pos h0)
        have hv8 : tV T (s.1 + 1) < 2147483648 ∨ ¬ (sCount T 0 6 (s.1 + 1, 0)).2 = 0 := by
          by_cases z : (sCount T 0 6 (s.1 + 1, 0)).2 = 0
          · have := (sCount_ok z).2.2.1.2
            dsimp only at this
            exact Or.inl (by omega)
          · exact Or.inr z
        have hzo : (sCount T 0 6 (s.1 + 1, 0)).2 = 0 := Classical.byContradiction (fun q => hne (by rw [if_neg q]))
        refine Ru_weak (L' := [(0, some (.ref lw)), (1, some (.ref 40)), (2, some (.int (nI (tK T s.1)))), (3, some (.int (nI (tV T (s.1 + 1)))))]) ?_ (by rw [if_pos hzo]; rfl)
        have hv6 : tV T (s.1 + 1) ≤ 6 := (sCount_ok hzo).2.2.1.2
        refine Ru_iconst (pc := 48) (nI 0) dX2_buildDay_48 rfl ?_
        refine Ru_istore (pc := 49) dX2_buildDay_49 rfl (by decide) ?_
        refine Ru_iconst (pc := 51) (nI 0) dX2_buildDay_51 rfl ?_
        refine Ru_istore (pc := 52) dX2_buildDay_52 rfl (by decide) ?_
        refine Ru_weak (l_X2_day (K := (tK T s.1)) (n := (tV T (s.1 + 1))) hl (by have := tK_155 T s.1; omega) (by omega) ?_ (7 - 0) 0 0 rfl (by decide) rfl) rfl
        have hcd9 : nCd (if tK T s.1 = 60 then 4 else if tK T s.1 = 62 then 5 else 6) (tV T (s.1 + 1)) = 4 * 2 ^ 8 ||| (orB (dyF (tK T s.1) (tV T (s.1 + 1))) 7) := by
          have h46 := dA46 (tK T s.1)
          rw [nCd_d h46.1 h46.2]
          refine congrArg (fun f => 4 * 2 ^ 8 ||| orB f 7) (funext fun r => ?_)
          unfold dyF
          by_cases e1 : tK T s.1 = 60
          · rw [if_pos e1, if_pos rfl, if_pos e1]
          · rw [if_neg e1, if_neg e1]
            by_cases e2 : tK T s.1 = 62
            · rw [if_pos e2, if_neg (by decide), if_pos rfl, if_pos e2]
            · rw [if_neg e2, if_neg (by decide), if_neg (by decide), if_neg e2]
        refine Ru_aload_n (pc := 134) dX2_buildDay_134 rfl rfl ?_
        refine Ru_iconst (pc := 135) (nI 4) dX2_buildDay_135 rfl ?_
        refine Ru_iload (pc := 136) dX2_buildDay_136 rfl ?_
        refine Ru_cv2 (pc := 138) dX2_buildDay_138 mv_X2_55 (shLaw_0 hl) (by decide) (Nat.le_of_ble_eq_true rfl) (c_X2_add (op := (if tK T s.1 = 60 then 4 else if tK T s.1 = 62 then 5 else 6)) (arg := (tV T (s.1 + 1))) (y := y) hl hz3 (Nat.le_trans hn (by decide)) (by first | decide | omega) hcd9 (fun M4 gx4 hz4 => ?_)) 
        have cw4 := cw3.tr (os_ow gx4)
        have hr4 := os_rd hl gx4 hr3
        refine Ru_iconst (pc := 141) (nI 1) dX2_buildDay_141 rfl ?_
        refine Ru_zret (pc := 142) dX2_buildDay_142 rfl ⟨Nat.le_refl _, Nat.le_refl _⟩ (Or.inr rfl) ?_
        rw [eD] at k
        exact r_qe (r_b_t (decide_eq_true hzo)) (k M4 cw4 hr4 (fun _ => hz4))
      · have heq := h4
        refine Ru_iconst (pc := 46) (nI 0) dX2_buildDay_46 rfl ?_
        refine Ru_zret (pc := 47) dX2_buildDay_47 rfl ⟨Nat.le_refl _, Nat.le_refl _⟩ (Or.inl rfl) ?_
        have eM : lcM (tK T s.1) = true := by
          unfold lcM
          exact decide_eq_true (by omega)
        have eD : (sCount T 0 6 (sMust T (lcM (tK T s.1)) s)) = (sCount T 0 6 (s.1 + 1, 0)) := by
          rw [eM]
          exact congrArg (sCount T 0 6) (if_pos h0)
        have hzf : ¬ (sCount T 0 6 (s.1 + 1, 0)).2 = 0 := fun q => by
          have hv6 := (sCount_ok q).2.2.1.2
          dsimp only at hv6
          exact (numb_iff _ (show tV T (s.1 + 1) < 2147483648 by omega)).mp heq q
        rw [eD] at k
        exact r_qe (r_b_f (decide_eq_false hzf)) (k M3 cw3 hr3 (fun q => absurd q hzf))
    · refine Ru_iload_n (pc := 17) dX2_buildDay_17 rfl rfl ?_
      refine Ru_bipush (pc := 18) (nI 61) dX2_buildDay_18 rfl ?_
      refine Ru_icmp_eqN (pc := 20) 29 dX2_buildDay_20 (by decide) (by have := tK_155 T s.1; omega) (fun h5 => ?_) (fun h5 => ?_)
      · refine Ru_aload_n (pc := 29) dX2_buildDay_29 rfl rfl ?_
        refine Ru_cv0 (pc := 30) dX2_buildDay_30 mv_X2_59 rfl (by decide) (Nat.le_of_ble_eq_true rfl) (c_X8_next (s := s) tw hr h0 (show ¬ tK T s.1 = 0 by omega) (fun M2 gx2 (hr2 : X_rd T cnt (s.1 + 1, 0) M2) => ?_)) 
        have cw2 := cw.fx1 (gx2.mono rfl)
        have hz2 := lz_fx hl (gx2.mono rfl) hz
        refine Ru_aload_n (pc := 33) dX2_buildDay_33 rfl rfl ?_
        refine Ru_iconst (pc := 34) (nI 0) dX2_buildDay_34 rfl ?_
        refine Ru_bipush (pc := 35) (nI 6) dX2_buildDay_35 rfl ?_
        refine Ru_cv2 (pc := 37) dX2_buildDay_37 mv_X2_77 rfl (by decide) (Nat.le_of_ble_eq_true rfl) (c_X8_number (s := (s.1 + 1, 0)) (lo := 0) (hi := 6) tw hr2 rfl (by decide) (fun M3 gx3 (hr3 : X_rd T cnt (sCount T 0 6 (s.1 + 1, 0)) M3) => ?_)) 
        have cw3 := cw2.fx1 (gx3.mono rfl)
        have hz3 := lz_fx hl (gx3.mono rfl) hz2
        refine Ru_istore_n (pc := 40) dX2_buildDay_40 rfl rfl (by decide) ?_
        refine Ru_iload_n (pc := 41) dX2_buildDay_41 rfl rfl ?_
        refine Ru_iconst (pc := 42) (-1) dX2_buildDay_42 rfl ?_
        refine Ru_icmp_neT (pc := 43) 48 dX2_buildDay_43 (by decide) (fun h6 => ?_) (fun h6 => ?_)
        · have hne := h6
          have eM : lcM (tK T s.1) = true := by
            unfold lcM
            exact decide_eq_true (by omega)
          have eD : (sCount T 0 6 (sMust T (lcM (tK T s.1)) s)) = (sCount T 0 6 (s.1 + 1, 0)) := by
            rw [eM]
            exact congrArg (sCount T 0 6) (if_pos h0)
          have hv8 : tV T (s.1 + 1) < 2147483648 ∨ ¬ (sCount T 0 6 (s.1 + 1, 0)).2 = 0 := by
            by_cases z : (sCount T 0 6 (s.1 + 1, 0)).2 = 0
            · have := (sCount_ok z).2.2.1.2
              dsimp only at this
              exact Or.inl (by omega)
            · exact Or.inr z
          have hzo : (sCount T 0 6 (s.1 + 1, 0)).2 = 0 := Classical.byContradiction (fun q => hne (by rw [if_neg q]))
          refine Ru_weak (L' := [(0, some (.ref lw)), (1, some (.ref 40)), (2, some (.int (nI (tK T s.1)))), (3, some (.int (nI (tV T (s.1 + 1)))))]) ?_ (by rw [if_pos hzo]; rfl)
          have hv6 : tV T (s.1 + 1) ≤ 6 := (sCount_ok hzo).2.2.1.2
          refine Ru_iconst (pc := 48) (nI 0) dX2_buildDay_48 rfl ?_
          refine Ru_istore (pc := 49) dX2_buildDay_49 rfl (by decide) ?_
          refine Ru_iconst (pc := 51) (nI 0) dX2_buildDay_51 rfl ?_
          refine Ru_istore (pc := 52) dX2_buildDay_52 rfl (by decide) ?_
          refine Ru_weak (l_X2_day (K := (tK T s.1)) (n := (tV T (s.1 + 1))) hl (by have := tK_155 T s.1; omega) (by omega) ?_ (7 - 0) 0 0 rfl (by decide) rfl) rfl
          have hcd9 : nCd (if tK T s.1 = 60 then 4 else if tK T s.1 = 62 then 5 else 6) (tV T (s.1 + 1)) = 4 * 2 ^ 8 ||| (orB (dyF (tK T s.1) (tV T (s.1 + 1))) 7) := by
            have h46 := dA46 (tK T s.1)
            rw [nCd_d h46.1 h46.2]
            refine congrArg (fun f => 4 * 2 ^ 8 ||| orB f 7) (funext fun r => ?_)
            unfold dyF
            by_cases e1 : tK T s.1 = 60
            · rw [if_pos e1, if_pos rfl, if_pos e1]
            · rw [if_neg e1, if_neg e1]
              by_cases e2 : tK T s.1 = 62
              · rw [if_pos e2, if_neg (by decide), if_pos rfl, if_pos e2]
              · rw [if_neg e2, if_neg (by decide), if_neg (by decide), if_neg e2]
          refine Ru_aload_n (pc := 134) dX2_buildDay_134 rfl rfl ?_
          refine Ru_iconst (pc := 135) (nI 4) dX2_buildDay_135 rfl ?_
          refine Ru_iload (pc := 136) dX2_buildDay_136 rfl ?_
          refine Ru_cv2 (pc := 138) dX2_buildDay_138 mv_X2_55 (shLaw_0 hl) (by decide) (Nat.le_of_ble_eq_true rfl) (c_X2_add (op := (if tK T s.1 = 60 then 4 else if tK T s.1 = 62 then 5 else 6)) (arg := (tV T (s.1 + 1))) (y := y) hl hz3 (Nat.le_trans hn (by decide)) (by first | decide | omega) hcd9 (fun M4 gx4 hz4 => ?_)) 
          have cw4 := cw3.tr (os_ow gx4)
          have hr4 := os_rd hl gx4 hr3
          refine Ru_iconst (pc := 141) (nI 1) dX2_buildDay_141 rfl ?_
          refine Ru_zret (pc := 142) dX2_buildDay_142 rfl ⟨Nat.le_refl _, Nat.le_refl _⟩ (Or.inr rfl) ?_
          rw [eD] at k
          exact r_qe (r_b_t (decide_eq_true hzo)) (k M4 cw4 hr4 (fun _ => hz4))
        · have heq := h6
          refine Ru_iconst (pc := 46) (nI 0) dX2_buildDay_46 rfl ?_
          refine Ru_zret (pc := 47) dX2_buildDay_47 rfl ⟨Nat.le_refl _, Nat.le_refl _⟩ (Or.inl rfl) ?_
          have eM : lcM (tK T s.1) = true := by
            unfold lcM
            exact decide_eq_true (by omega)
          have eD : (sCount T 0 6 (sMust T (lcM (tK T s.1)) s)) = (sCount T 0 6 (s.1 + 1, 0)) := by
            rw [eM]
            exact congrArg (sCount T 0 6) (if_pos h0)
          have hzf : ¬ (sCount T 0 6 (s.1 + 1, 0)).2 = 0 := fun q => by
            have hv6 := (sCount_ok q).2.2.1.2
            dsimp only at hv6
            exact (numb_iff _ (show tV T (s.1 + 1) < 2147483648 by omega)).mp heq q
          rw [eD] at k
          exact r_qe (r_b_f (decide_eq_false hzf)) (k M3 cw3 hr3 (fun q => absurd q hzf))
      · refine Ru_aload_n (pc := 23) dX2_buildDay_23 rfl rfl ?_
        refine Ru_iconst (pc := 24) (nI 2) dX2_buildDay_24 rfl ?_
        refine Ru_cv1 (pc := 25) dX2_buildDay_25 mv_X2_62 rfl (by decide) (Nat.le_of_ble_eq_true rfl) (c_X8_refuse (s := s) (f := 2) tw hr h0 (by decide) (fun M2 gx2 (hr2 : X_rd T cnt (sRf T 2 s) M2) => ?_)) 
        have cw2 := cw.fx1 (gx2.mono rfl)
        have hz2 := lz_fx hl (gx2.mono rfl) hz
        refine Ru_zret (pc := 28) dX2_buildDay_28 rfl ⟨Nat.le_refl _, Nat.le_refl _⟩ (Or.inl rfl) ?_
        have eM : lcM (tK T s.1) = false := by
          unfold lcM
          exact decide_eq_false (by omega)
        have eD : (sCount T 0 6 (sMust T (lcM (tK T s.1)) s)) = sRf T 2 s := by
          rw [eM]
          show sCount T 0 6 (sWrong T s) = _
          rw [sCount_f (sWrong_n h0).1, sRf_w h0]
        have hzf : ¬ (sCount T 0 6 (sMust T (lcM (tK T s.1)) s)).2 = 0 := by
          rw [eD]
          exact sRf_n (by decide)
        rw [eD] at k hzf
        exact r_qe (r_b_f (decide_eq_false hzf)) (k M2 cw2 hr2 (fun q => absurd q hzf))
