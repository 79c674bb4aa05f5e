-- READING: the developers' rows, names, hours
/-- names in a row, as the developers read them -/
def sRx (T : Tx) (W : Nat → List Nat) (b n had : Nat) : Nat → Nat → Ps → Nat × Ps
  | 0, set, s => (set, s)
  | f + 1, set, s => if ¬ (sNm T W b n (had ||| set) s).2 = 0 then (0, sNm T W b n (had ||| set) s) else if tK T (s.1 + 1) = 3 then sRx T W b n had f (set ||| 2 ^ (fN W (tL T s.1) b n - 1)) (s.1 + 1, 0) else (set ||| 2 ^ (fN W (tL T s.1) b n - 1), (s.1 + 1, 0))
theorem sNm_ok {T : Tx} {W : Nat → List Nat} {b n had : Nat} {s : Ps} (h : (sNm T W b n had s).2 = 0) : sOld T W b n s = s ∧ s.2 = 0 ∧ tK T s.1 = 3 ∧ (¬ fN W (tL T s.1) b n = 0) ∧ had.testBit (fN W (tL T s.1) b n - 1) = false ∧ sNm T W b n had s = (s.1 + 1, 0) := by
  unfold sNm at h ⊢
  by_cases h1 : (sOld T W b n s).2 = 0
  · have hok := sOld_ok h1
    rw [if_neg (fun z => z h1)] at h ⊢
    cases hb : had.testBit (fN W (tL T s.1) b n - 1)
    · rw [if_neg (by decide)]
      exact ⟨hok.1, hok.2.1, hok.2.2.1, hok.2.2.2, rfl, rfl⟩
    · rw [hb, if_pos rfl] at h
      exact absurd h (fun z => Nat.noConfusion z)
  · rw [if_pos h1] at h
    exact absurd h h1
/-- the two ways to read a row come to the same -/
theorem sRx_Rw {T : Tx} (tw : Tw T) {W : Nat → List Nat} {b n had e : Nat} (he3 : ¬ e = 3) : ∀ (f set : Nat) (s : Ps), s.2 = 0 → 801 ≤ f + s.1 → s.1 ≤ 800 → sRw T W b n had e f set s = if (sRx T W b n had f set s).2.2 = 0 ∧ isWk (tK T (sRx T W b n had f set s).2.1) = true ∧ ¬ tK T (sRx T W b n had f set s).2.1 = e then (0, ((sRx T W b n had f set s).2.1, 2)) else sRx T W b n had f set s
  | 0, set, s, h0, hf, h8 => by omega
  | f + 1, set, s, h0, hf, h8 => by
    by_cases h1 : (sOld T W b n s).2 = 0
    · have hok := sOld_ok h1
      have hs8 := (tK_i tw (i := s.1) (by omega)).1
      cases hb : (set ||| had).testBit (fN W (tL T s.1) b n - 1)
      · have e1 : sNm T W b n (had ||| set) s = (s.1 + 1, 0) := by
          unfold sNm
          rw [if_neg (fun z => z h1), Nat.or_comm, hb, if_neg (by decide)]
        have eX : sRx T W b n had (f + 1) set s = if tK T (s.1 + 1) = 3 then sRx T W b n had f (set ||| 2 ^ (fN W (tL T s.1) b n - 1)) (s.1 + 1, 0) else (set ||| 2 ^ (fN W (tL T s.1) b n - 1), (s.1 + 1, 0)) := by
          rw [sRx, e1]
          exact if_neg (fun z => z rfl)
        have eW : sRw T W b n had e (f + 1) set s = if isWk (tK T (s.1 + 1)) = true ∧ ¬ tK T (s.1 + 1) = e then sRw T W b n had e f (set ||| 2 ^ (fN W (tL T s.1) b n - 1)) (s.1 + 1, 0) else (set ||| 2 ^ (fN W (tL T s.1) b n - 1), (s.1 + 1, 0)) := by
          rw [sRw, if_neg (fun z => z h1), hb, if_neg (by decide)]
        rw [eX, eW]
        by_cases h3 : tK T (s.1 + 1) = 3
        · have ih := sRx_Rw tw he3 (W := W) (b := b) (n := n) (had := had) (e := e) f (set ||| 2 ^ (fN W (tL T s.1) b n - 1)) (s.1 + 1, 0) rfl (by show 801 ≤ f + (s.1 + 1); omega) (by show s.1 + 1 ≤ 800; omega)
          have h4 : isWk (tK T (s.1 + 1)) = true ∧ ¬ tK T (s.1 + 1) = e := ⟨decide_eq_true (Or.inl h3), fun z => he3 (z.symm.trans h3)⟩
          rw [if_pos h4, if_pos h3]
          exact ih
        · rw [if_neg h3]
          by_cases h4 : isWk (tK T (s.1 + 1)) = true ∧ ¬ tK T (s.1 + 1) = e
          · have h5 : ¬ tK T (s.1 + 1) = 0 := fun z => by
              rw [z] at h4
              exact absurd h4.1 (by decide)
            obtain ⟨f', rfl⟩ : ∃ f', f = f' + 1 := ⟨f - 1, by have := (tK_i tw (i := s.1 + 1) h5).1; omega⟩
            have e2 : sOld T W b n (s.1 + 1, 0) = (s.1 + 1, 2) := by
              have h6 : ¬ tK T (s.1 + 1) = 1 := fun z => by
                rw [z] at h4
                exact absurd h4.1 (by decide)
              unfold sOld sWrong
              rw [if_neg h3, if_pos rfl, if_neg h6]
            have e3 : ∀ S, sRw T W b n had e (f' + 1) S (s.1 + 1, 0) = (0, (s.1 + 1, 2)) := fun S => by
              rw [sRw, e2]
              exact if_pos (fun z => Nat.noConfusion z)
            rw [if_pos h4, e3, if_pos ⟨rfl, h4⟩]
          · rw [if_neg h4, if_neg (fun z => h4 z.2)]
      · have e1 : sNm T W b n (had ||| set) s = (s.1, 5) := by
          unfold sNm
          rw [if_neg (fun z => z h1), Nat.or_comm, hb, if_pos rfl]
        have eX : sRx T W b n had (f + 1) set s = (0, (s.1, 5)) := by
          rw [sRx, e1]
          exact if_pos (fun z => Nat.noConfusion z)
        have eW : sRw T W b n had e (f + 1) set s = (0, (s.1, 5)) := by
          rw [sRw, if_neg (fun z => z h1), hb, if_pos rfl]
        rw [eX, eW]
        exact (if_neg (fun z => Nat.noConfusion z.1)).symm
    · have e1 : sNm T W b n (had ||| set) s = sOld T W b n s := by
        unfold sNm
        rw [if_pos h1]
      have eX : sRx T W b n had (f + 1) set s = (0, sOld T W b n s) := by
        rw [sRx, e1, if_pos h1]
      have eW : sRw T W b n had e (f + 1) set s = (0, sOld T W b n s) := by
        rw [sRw, if_pos h1]
      rw [eX, eW]
      exact (if_neg (fun z => h1 z.1)).symm

theorem fx40 {M M' : Mem} {o k : Nat} (h : r_fx [(40, 6), (40, 7), (40, 8)] [] M M') (ho : ¬ o = 40) : r_eq3 M M' o k := by
  refine h o k ?_
  simp [r_in]
  omega
theorem names_ne {o : Nat} (h : isNames o) : ¬ o = 40 ∧ ¬ o + 1 = 40 := by
  unfold isNames at h
  omega

theorem l_X8_namedRow {Q : Rq} {M0 : Mem} {T : Tx} {cnt o b n had : Nat} {W : Nat → List Nat} {R : Nat × Ps} (tw : Tw T) (ho : isNames o) (hn8 : n ≤ 8) (hcn0 : M0.1 o 2 = nI n) (hW0 : ∀ k, k < n → M0.2.1 (o + 1) k = nJ (cd 27 (W (b + k))) ∧ Lv (W (b + k)) ∧ (W (b + k)).length ≤ 8) (hhad : had < 256) (k : ∀ M', r_fx [(40, 6), (40, 7), (40, 8)] [] M0 M' → X_rd T cnt R.2 M' → Q (some (.int (nI R.1))) GX M') : ∀ (zw : Nat) (j : Nat) (set : Nat) (c : Nat) (M : Mem), 801 - j = zw → (set < 2 ^ n) → (j ≤ 800) → (c ≤ j) → (X_rd T cnt (j, 0) M) → (c = 0 ∨ tK T j = 3 → sRx T W b n had (801 - j) set (j, 0) = R) → (¬ c = 0 → ¬ tK T j = 3 → (set, (j, 0)) = R) → (r_fx [(40, 6), (40, 7), (40, 8)] [] M0 M) → Ru 2 mt_X8_namedRow r_z 5 [(0, some (.ref 40)), (1, some (.ref o)), (2, some (.int (nI had))), (3, some (.int (nI set))), (4, some (.int (nI c)))] [] GX M Q := by
  intro zw
  induction zw using Nat.strongRecOn with
  | ind zw ih =>
    intro j set c M hw hset hj hcj hr hR1 hR2 fx
    subst hw
    have hN40 : ¬ o = 40 ∧ ¬ o + 1 = 40 := names_ne ho
    have hcn : M.1 o 2 = nI n := (fx40 fx hN40.1).1.trans hcn0
    have hW : ∀ k, k < n → M.2.1 (o + 1) k = nJ (cd 27 (W (b + k))) ∧ Lv (W (b + k)) ∧ (W (b + k)).length ≤ 8 := fun k hk => ⟨(fx40 fx hN40.2).2.1.trans (hW0 k hk).1, (hW0 k hk).2⟩
    have hfl := fN_le W (tL T j) b n
    have hfl2 : (fN W (tL T j) b n - 1) < 2147483648 := by omega
    have hp := pw_le hn8
    have hkb := kK_b T (tA T j)
    have hkb2 : kK T (tA T j) = tK T j := rfl
    rw [hkb2] at hkb
    refine Ru_iload (pc := 5) dX8_namedRow_5 rfl ?_
    refine Ru_sipush (pc := 7) (nI 800) dX8_namedRow_7 rfl ?_
    refine Ru_icmp_geN (pc := 10) 62 dX8_namedRow_10 (by decide) (by omega) (fun h1 => ?_) (fun h1 => ?_)
    · refine Ru_iload_n (pc := 62) dX8_namedRow_62 rfl rfl ?_
      refine Ru_iret (pc := 63) dX8_namedRow_63 rfl ⟨Nat.le_refl _, Nat.le_refl _⟩ ?_
      have eR : (set, (j, 0)) = R := hR2 (by omega) (fun z => by
        have := (tK_i tw (i := j) (by omega)).1
        omega)
      subst eR
      exact k M fx hr
    · refine Ru_iload (pc := 13) dX8_namedRow_13 rfl ?_
      refine Ru_if_eqN (pc := 15) 31 dX8_namedRow_15 (by decide) (by omega) (fun h2 => ?_) (fun h2 => ?_)
      · have hc3 : c = 0 ∨ tK T j = 3 := by
          first | exact Or.inl (by assumption) | exact Or.inr (by assumption)
        refine Ru_aload_n (pc := 31) dX8_namedRow_31 rfl rfl ?_
        refine Ru_aload_n (pc := 32) dX8_namedRow_32 rfl rfl ?_
        refine Ru_iload_n (pc := 33) dX8_namedRow_33 rfl rfl ?_
        refine Ru_iload_n (pc := 34) dX8_namedRow_34 rfl rfl ?_
        refine Ru_iorN (pc := 35) dX8_namedRow_35 ?_
        refine Ru_cv2 (pc := 36) dX8_namedRow_36 mv_X8_104 rfl (by decide) (Nat.le_of_ble_eq_true rfl) (c_X8_named (s := (j, 0)) (W := W) (b := b) (n := n) tw hr rfl ho hcn (by omega) hW (Nat.or_lt_two_pow (n := 8) hhad (Nat.lt_of_lt_of_le hset (Nat.pow_le_pow_right (by decide) hn8))) (fun M2 gx2 (hr2 : X_rd T cnt (sNm T W b n (had ||| set) (j, 0)) M2) => ?_)) 
        refine Ru_istore (pc := 39) dX8_namedRow_39 rfl (by decide) ?_
        refine Ru_iload (pc := 41) dX8_namedRow_41 rfl ?_
        refine Ru_iconst (pc := 43) (-1) dX8_namedRow_43 rfl ?_
        refine Ru_icmp_neT (pc := 44) 49 dX8_namedRow_44 (by decide) (fun h3 => ?_) (fun h3 => ?_)
        · have hne := h3
          have hz : (sNm T W b n (had ||| set) (j, 0)).2 = 0 := Classical.byContradiction (fun z => hne ((numb_iff _ hfl2).mpr z))
          have hok := sNm_ok hz
          have hK3 : tK T j = 3 := hok.2.2.1
          have hj8 := (tK_i tw (i := j) (by omega)).1
          have hf0 : ¬ fN W (tL T j) b n = 0 := hok.2.2.2.1
          refine Ru_weak (L' := [(0, some (.ref 40)), (1, some (.ref o)), (2, some (.int (nI had))), (3, some (.int (nI set))), (4, some (.int (nI c))), (5, some (.int (nI (fN W (tL T j) b n - 1))))]) ?_ (by rw [if_pos hz]; rfl)
          refine Ru_iload_n (pc := 49) dX8_namedRow_49 rfl rfl ?_
          refine Ru_iconst (pc := 50) (nI 1) dX8_namedRow_50 rfl ?_
          refine Ru_iload (pc := 51) dX8_namedRow_51 rfl ?_
          refine Ru_ishl1N (pc := 53) dX8_namedRow_53 (by omega) ?_
          refine Ru_iorN (pc := 54) dX8_namedRow_54 ?_
          refine Ru_istore_n (pc := 55) dX8_namedRow_55 rfl rfl (by decide) ?_
          refine Ru_iincN (pc := 56) 1 dX8_namedRow_56 rfl rfl rfl (by decide) ?_
          refine Ru_goto (pc := 59) 5 dX8_namedRow_59 (by decide) ?_
          rw [hok.2.2.2.2.2] at hr2
          refine Ru_weak (ih (801 - (j + 1)) (by omega) (j + 1) (set ||| 2 ^ (fN W (tL T j) b n - 1)) (c + 1) M2 rfl (Nat.or_lt_two_pow hset (Nat.pow_lt_pow_right (by decide) (by omega))) (by omega) (by omega) hr2 (fun z => ?_) (fun _ z => ?_) (fx.tr gx2)) rfl
          · have h3 : tK T (j + 1) = 3 := by
              rcases z with z | z
              · omega
              · exact z
            rw [← hR1 hc3, show 801 - j = (801 - (j + 1)) + 1 by omega, sRx, if_neg (fun y => y hz), if_pos h3]
          · rw [← hR1 hc3, show 801 - j = (801 - (j + 1)) + 1 by omega, sRx, if_neg (fun y => y hz), if_neg z]
        · have heq := h3
          refine Ru_iconst (pc := 47) (nI 0) dX8_namedRow_47 rfl ?_
          refine Ru_iret (pc := 48) dX8_namedRow_48 rfl ⟨Nat.le_refl _, Nat.le_refl _⟩ ?_
          have hz : ¬ (sNm T W b n (had ||| set) (j, 0)).2 = 0 := (numb_iff _ hfl2).mp heq
          have eR : (0, (sNm T W b n (had ||| set) (j, 0))) = R := by
            rw [← hR1 hc3, show 801 - j = (800 - j) + 1 by omega, sRx, if_pos hz]
          subst eR
          exact k M2 (fx.tr gx2) hr2
      · refine Ru_aload_n (pc := 18) dX8_namedRow_18 rfl rfl ?_
        refine Ru_getR (pc := 19) 43 dX8_namedRow_19 fl_X8_19 rfl rfl (rfX_of (o := 40) (j := 3) rfl rfl) ?_
        refine Ru_aload_n (pc := 22) dX8_namedRow_22 rfl rfl ?_
        refine Ru_getI (pc := 23) dX8_namedRow_23 fl_X8_69 rfl rfl ?_
        refine Ru_top (hr.1 rfl).1 ?_
        refine Ru_iald (pc := 26) dX8_namedRow_26 rfl (by omega) ?_
        refine Ru_top ((hr.1 rfl).2.2 j (by have := (hr.1 rfl).2.1; omega)).1 ?_
        refine Ru_iconst (pc := 27) (nI 3) dX8_namedRow_27 rfl ?_
        refine Ru_icmp_neN (pc := 28) 62 dX8_namedRow_28 (by decide) (by omega) (fun h4 => ?_) (fun h4 => ?_)
        · refine Ru_iload_n (pc := 62) dX8_namedRow_62 rfl rfl ?_
          refine Ru_iret (pc := 63) dX8_namedRow_63 rfl ⟨Nat.le_refl _, Nat.le_refl _⟩ ?_
          have eR : (set, (j, 0)) = R := hR2 (by omega) (fun z => by
            have := (tK_i tw (i := j) (by omega)).1
            omega)
          subst eR
          exact k M fx hr
        · have hc3 : c = 0 ∨ tK T j = 3 := by
            first | exact Or.inl (by assumption) | exact Or.inr (by assumption)
          refine Ru_aload_n (pc := 31) dX8_namedRow_31 rfl rfl ?_
          refine Ru_aload_n (pc := 32) dX8_namedRow_32 rfl rfl ?_
          refine Ru_iload_n (pc := 33) dX8_namedRow_33 rfl rfl ?_
          refine Ru_iload_n (pc := 34) dX8_namedRow_34 rfl rfl ?_
          refine Ru_iorN (pc := 35) dX8_namedRow_35 ?_
          refine Ru_cv2 (pc := 36) dX8_namedRow_36 mv_X8_104 rfl (by decide) (Nat.le_of_ble_eq_true rfl) (c_X8_named (s := (j, 0)) (W := W) (b := b) (n := n) tw hr rfl ho hcn (by omega) hW (Nat.or_lt_two_pow (n := 8) hhad (Nat.lt_of_lt_of_le hset (Nat.pow_le_pow_right (by decide) hn8))) (fun M2 gx2 (hr2 : X_rd T cnt (sNm T W b n (had ||| set) (j, 0)) M2) => ?_)) 
          refine Ru_istore (pc := 39) dX8_namedRow_39 rfl (by decide) ?_
          refine Ru_iload (pc := 41) dX8_namedRow_41 rfl ?_
          refine Ru_iconst (pc := 43) (-1) dX8_namedRow_43 rfl ?_
          refine Ru_icmp_neT (pc := 44) 49 dX8_namedRow_44 (by decide) (fun h5 => ?_) (fun h5 => ?_)
          · have hne := h5
            have hz : (sNm T W b n (had ||| set) (j, 0)).2 = 0 := Classical.byContradiction (fun z => hne ((numb_iff _ hfl2).mpr z))
            have hok := sNm_ok hz
            have hK3 : tK T j = 3 := hok.2.2.1
            have hj8 := (tK_i tw (i := j) (by omega)).1
            have hf0 : ¬ fN W (tL T j) b n = 0 := hok.2.2.2.1
            refine Ru_weak (L' := [(0, some (.ref 40)), (1, some (.ref o)), (2, some (.int (nI had))), (3, some (.int (nI set))), (4, some (.int (nI c))), (5, some (.int (nI (fN W (tL T j) b n - 1))))]) ?_ (by rw [if_pos hz]; rfl)
            refine Ru_iload_n (pc := 49) dX8_namedRow_49 rfl rfl ?_
            refine Ru_iconst (pc := 50) (nI 1) dX8_namedRow_50 rfl ?_
            refine Ru_iload (pc := 51) dX8_namedRow_51 rfl ?_
            refine Ru_ishl1N (pc := 53) dX8_namedRow_53 (by omega) ?_
            refine Ru_iorN (pc := 54) dX8_namedRow_54 ?_
            refine Ru_istore_n (pc := 55) dX8_namedRow_55 rfl rfl (by decide) ?_
            refine Ru_iincN (pc := 56) 1 dX8_namedRow_56 rfl rfl rfl (by decide) ?_
            refine Ru_goto (pc := 59) 5 dX8_namedRow_59 (by decide) ?_
            rw [hok.2.2.2.2.2] at hr2
            refine Ru_weak (ih (801 - (j + 1)) (by omega) (j + 1) (set ||| 2 ^ (fN W (tL T j) b n - 1)) (c + 1) M2 rfl (Nat.or_lt_two_pow hset (Nat.pow_lt_pow_right (by decide) (by omega))) (by omega) (by omega) hr2 (fun z => ?_) (fun _ z => ?_) (fx.tr gx2)) rfl
            · have h3 : tK T (j + 1) = 3 := by
                rcases z with z | z
                · omega
                · exact z
              rw [← hR1 hc3, show 801 - j = (801 - (j + 1)) + 1 by omega, sRx, if_neg (fun y => y hz), if_pos h3]
            · rw [← hR1 hc3, show 801 - j = (801 - (j + 1)) + 1 by omega, sRx, if_neg (fun y => y hz), if_neg z]
          · have heq := h5
            refine Ru_iconst (pc := 47) (nI 0) dX8_namedRow_47 rfl ?_
            refine Ru_iret (pc := 48) dX8_namedRow_48 rfl ⟨Nat.le_refl _, Nat.le_refl _⟩ ?_
            have hz : ¬ (sNm T W b n (had ||| set) (j, 0)).2 = 0 := (numb_iff _ hfl2).mp heq
            have eR : (0, (sNm T W b n (had ||| set) (j, 0))) = R := by
              rw [← hR1 hc3, show 801 - j = (800 - j) + 1 by omega, sRx, if_pos hz]
            subst eR
            exact k M2 (fx.tr gx2) hr2

theorem c_X8_namedRow {Q : Rq} {M : Mem} {T : Tx} {cnt : Nat} {s : Ps} (tw : Tw T) (hr : X_rd T cnt s M) (h0 : s.2 = 0) {o b n had : Nat} {W : Nat → List Nat} (ho : isNames o) (hn8 : n ≤ 8) (hcn : M.1 o 2 = nI n) (hW : ∀ k, k < n → M.2.1 (o + 1) k = nJ (cd 27 (W (b + k))) ∧ Lv (W (b + k)) ∧ (W (b + k)).length ≤ 8) (hhad : had < 256) (hs8 : s.1 ≤ 800) (k : ∀ M', r_fx [(40, 6), (40, 7), (40, 8)] [] M M' → X_rd T cnt (sRx T W b n had (801 - s.1) 0 s).2 M' → Q (some (.int (nI (sRx T W b n had (801 - s.1) 0 s).1))) GX M') : Ca 2 mt_X8_namedRow 0 0 [.ref 40, .ref o, .int (nI had)] GX M Q := by
  refine Ca_of rfl (Nat.le_of_ble_eq_true rfl) ?_
  refine Ru_iconst (pc := 0) (nI 0) dX8_namedRow_0 rfl ?_
  refine Ru_istore_n (pc := 1) dX8_namedRow_1 rfl rfl (by decide) ?_
  refine Ru_iconst (pc := 2) (nI 0) dX8_namedRow_2 rfl ?_
  refine Ru_istore (pc := 3) dX8_namedRow_3 rfl (by decide) ?_
  have es : s = (s.1, 0) := Prod.ext rfl h0
  refine Ru_weak (l_X8_namedRow (R := (sRx T W b n had (801 - s.1) 0 s)) tw ho hn8 hcn hW hhad k (801 - s.1) s.1 0 0 M rfl (Nat.two_pow_pos _) hs8 (Nat.zero_le _) (by rw [← es]; exact hr) (fun _ => by rw [← es]) (fun z => absurd rfl z) r_fx.rf) rfl

theorem c_X3_isFull {Q : Rq} {M : Mem} {o n lim : Nat} (ho : isNames o) (hcn : M.1 o 2 = nI n) (hlm : M.1 o 0 = nI lim) (hn9 : n ≤ 12 ∧ lim ≤ 12) (k : Q (some (.int (r_b (decide (lim ≤ n))))) GX M) : Ca 0 mt_X3_isFull 0 0 [.ref o] GX M Q := by
  refine Ca_of rfl (Nat.le_of_ble_eq_true rfl) ?_
  refine Ru_aload_n (pc := 0) dX3_isFull_0 rfl rfl ?_
  refine Ru_getI (pc := 1) dX3_isFull_1 fl_X3_25 (shNames_0 ho) rfl ?_
  refine Ru_top hcn ?_
  refine Ru_aload_n (pc := 4) dX3_isFull_4 rfl rfl ?_
  refine Ru_getI (pc := 5) dX3_isFull_5 fl_X3_21 (shNames_0 ho) rfl ?_
  refine Ru_top hlm ?_
  refine Ru_icmp_ltN (pc := 8) 15 dX3_isFull_8 (by decide) (by omega) (fun h1 => ?_) (fun h1 => ?_)
  · refine Ru_iconst (pc := 15) (nI 0) dX3_isFull_15 rfl ?_
    refine Ru_zret (pc := 16) dX3_isFull_16 rfl ⟨Nat.le_refl _, Nat.le_refl _⟩ (Or.inl rfl) ?_
    refine r_qe (r_b_f ?_) k
    exact decide_eq_false (by omega)
  · refine Ru_iconst (pc := 11) (nI 1) dX3_isFull_11 rfl ?_
    refine Ru_goto (pc := 12) 16 dX3_isFull_12 (by decide) ?_
    refine Ru_zret (pc := 16) dX3_isFull_16 rfl ⟨Nat.le_refl _, Nat.le_refl _⟩ (Or.inr rfl) ?_
    refine r_qe (r_b_t ?_) k
    exact decide_eq_true (by omega)

theorem c_X3_add {Q : Rq} {M : Mem} {o n lim : Nat} (ho : isNames o) (hcn : M.1 o 2 = nI n) (hlm : M.1 o 0 = nI lim) (hn9 : n ≤ 12 ∧ lim ≤ 12) {w : Int64} (hlt : n < lim) (k : Q none GX (r_sI (r_sJ M (o + 1) n w) o 2 (nI (n + 1)))) : Ca 1 mt_X3_add 0 0 [.ref o, .long w] GX M Q := by
  refine Ca_of rfl (Nat.le_of_ble_eq_true rfl) ?_
  refine Ru_aload_n (pc := 0) dX3_add_0 rfl rfl ?_
  refine Ru_cv0 (pc := 1) dX3_add_1 mv_X3_28 (shNames_0 ho) (by decide) (Nat.le_of_ble_eq_true rfl) (c_X3_isFull ho hcn hlm hn9 ?_) 
  refine Ru_if_neB (pc := 4) 27 dX3_add_4 (by decide) (fun h1 => ?_) (fun h1 => ?_)
  · replace h1 := of_decide_eq_true h1
    exfalso
    omega
  · replace h1 := of_decide_eq_false h1
    refine Ru_aload_n (pc := 7) dX3_add_7 rfl rfl ?_
    refine Ru_getR (pc := 8) (o + 1) dX3_add_8 fl_X3_9 (shNames_0 ho) rfl (rfX_of (o := o) (j := 1) (shNames_0 ho) rfl) ?_
    refine Ru_aload_n (pc := 11) dX3_add_11 rfl rfl ?_
    refine Ru_getI (pc := 12) dX3_add_12 fl_X3_25 (shNames_0 ho) rfl ?_
    refine Ru_top hcn ?_
    refine Ru_lload_n (pc := 15) dX3_add_15 rfl rfl ?_
    refine Ru_last (pc := 16) rfl dX3_add_16 (shNames_1 ho) (by omega) ?_
    refine Ru_aload_n (pc := 17) dX3_add_17 rfl rfl ?_
    refine Ru_dup (pc := 18) dX3_add_18 rfl ?_
    refine Ru_getI (pc := 19) dX3_add_19 fl_X3_25 (shNames_0 ho) rfl ?_
    refine Ru_top hcn ?_
    refine Ru_iconst (pc := 22) (nI 1) dX3_add_22 rfl ?_
    refine Ru_iaddN (pc := 23) dX3_add_23 ?_
    refine Ru_putI (pc := 24) rfl dX3_add_24 fl_X3_25 (shNames_0 ho) ?_
    refine Ru_vret (pc := 27) dX3_add_27 rfl ⟨Nat.le_refl _, Nat.le_refl _⟩ ?_
    exact k
