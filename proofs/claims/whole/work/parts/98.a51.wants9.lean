-- READING: the developers' wants
theorem nu0 {u j k k' : Nat} (h : ¬ j = 0) : ¬ (u + j = u ∧ k = k') := by omega
theorem n0u {u j k k' : Nat} (h : ¬ j = 0) : ¬ (u = u + j ∧ k = k') := by omega
theorem X_rd_s0 {T : Tx} {cnt u k : Nat} {s : Ps} {M M' : Mem} {v : Int32} (hu : isTown u) (en : r_sI M u k v = M') (hr : X_rd T cnt s M) : X_rd T cnt s M' := X_rd_st (u := u) (j := 0) hu (by decide) en hr
theorem wa_f5 {T : Tx} {x : St9} {s : Ps} (h : ¬ (wa5 T x s).2 = 0) : prE T (waS T x s) = wa5 T x s := by
  have e : waS T x s = wa5 T x s := sIf_f h
  unfold prE
  rw [e]
  exact sMust_f h
theorem wa_f4 {T : Tx} {x : St9} {s : Ps} (h : ¬ (wa4 T x s).2 = 0) : prE T (waS T x s) = wa4 T x s := by
  have e : wa5 T x s = wa4 T x s := sCount_f h
  exact (wa_f5 (by rw [e]; exact h)).trans e
theorem wa_f3 {T : Tx} {x : St9} {s : Ps} (h : ¬ (wa3 T x s).2 = 0) : prE T (waS T x s) = wa3 T x s := by
  have e : wa4 T x s = wa3 T x s := sMust_f h
  exact (wa_f4 (by rw [e]; exact h)).trans e
theorem wa_f2 {T : Tx} {x : St9} {s : Ps} (h : ¬ (wa2 T x s).2 = 0) : prE T (waS T x s) = wa2 T x s := by
  have e : wa3 T x s = wa2 T x s := sCount_f h
  exact (wa_f3 (by rw [e]; exact h)).trans e
theorem wa_f1 {T : Tx} {x : St9} {s : Ps} (h : ¬ (wa1 T x s).2 = 0) : prE T (waS T x s) = wa1 T x s := by
  have e : wa2 T x s = wa1 T x s := sMust_f h
  exact (wa_f2 (by rw [e]; exact h)).trans e
theorem wa_f0 {T : Tx} {x : St9} {s : Ps} (h : ¬ (wa0 T x s).2 = 0) : prE T (waS T x s) = wa0 T x s := by
  have e : wa1 T x s = wa0 T x s := by
    unfold wa1
    rw [sOld_f h]
    exact sNext_f h
  exact (wa_f1 (by rw [e]; exact h)).trans e
theorem waX_c {T : Tx} {x : St9} {s : Ps} (hlt : x.1 3 < 8) : (waX T x s).1 3 = x.1 3 + 1 ∧ ((waX T x s).1 (107 + x.1 3) = fN x.2 (tL T (wa0 T x s).1) 0 (x.1 0) - 1 ∧ (waX T x s).1 (115 + x.1 3) = tV T (wa2 T x s).1 ∧ (waX T x s).1 (123 + x.1 3) = tV T (wa4 T x s).1 ∧ (waX T x s).1 (131 + x.1 3) = bIf T 144 (wa5 T x s)) ∧ ∀ j, ¬ j = 3 → ¬ j = 107 + x.1 3 → ¬ j = 115 + x.1 3 → ¬ j = 123 + x.1 3 → ¬ j = 131 + x.1 3 → (waX T x s).1 j = x.1 j := by
  unfold waX
  dsimp only
  refine ⟨rfl, ⟨?_, ?_, ?_, ?_⟩, fun j h1 h2 h3 h4 h5 => ?_⟩
  · rw [if_neg (by omega), if_pos rfl]
  · rw [if_neg (by omega), if_neg (by omega), if_pos rfl]
  · rw [if_neg (by omega), if_neg (by omega), if_neg (by omega), if_pos rfl]
  · rw [if_neg (by omega), if_neg (by omega), if_neg (by omega), if_neg (by omega), if_pos rfl]
  · rw [if_neg h1, if_neg h2, if_neg h3, if_neg h4, if_neg h5]
def pW (u m o k : Nat) : Prop := (o = u ∧ (k = 12 ∨ k = 16)) ∨ (u + 14 ≤ o ∧ o ≤ u + 16 ∧ k = m)

theorem c_X9_buildWant {Q : Rq} {M : Mem} {T : Tx} {cnt u : Nat} {s : Ps} {x : St9} (tw : Tw T) (hu : isTown u) (bd : X_bd u x M) (wf : Wf x.1) (hr : X_rd T cnt s M) (h0 : s.2 = 0) (hP : tK T s.1 = 141) (k : ∀ M', r_ow (inT u) M M' → X_lm u M' → X_rd T cnt (prE T (waS T x s)) M' → ((prE T (waS T x s)).2 = 0 → X_bd u (waX T x s) M') → Q (some (.int (r_b (decide ((prE T (waS T x s)).2 = 0))))) GX M') : Ca 3 mt_X9_buildWant 0 0 [.ref u, .ref 40] GX M Q := by
  refine Ca_of rfl (Nat.le_of_ble_eq_true rfl) ?_
  have cw : r_ow (pW u (x.1 3)) M M := fun _ _ _ _ => ⟨rfl, rfl, rfl⟩
  have hT : u = 3 ∨ u = 83 ∨ u = 111 ∨ u = 139 ∨ u = 167 := hu
  have hx := wf.1
  have em : (-1 : Int32).toInt = -1 := rfl
  refine Ru_aload_n (pc := 0) dX9_buildWant_0 rfl rfl ?_
  refine Ru_getI (pc := 1) dX9_buildWant_1 fl_X9_103 (shTown_0 hu) rfl ?_
  refine Ru_top bd.2.2.1 ?_
  refine Ru_istore_n (pc := 4) dX9_buildWant_4 rfl rfl (by decide) ?_
  refine Ru_iload_n (pc := 5) dX9_buildWant_5 rfl rfl ?_
  refine Ru_bipush (pc := 6) (nI 8) dX9_buildWant_6 rfl ?_
  refine Ru_icmp_ltN (pc := 8) 18 dX9_buildWant_8 (by decide) (by omega) (fun h1 => ?_) (fun h1 => ?_)
  · have hlt : x.1 3 < 8 := h1
    refine Ru_aload_n (pc := 18) dX9_buildWant_18 rfl rfl ?_
    refine Ru_dup (pc := 19) dX9_buildWant_19 rfl ?_
    refine Ru_getI (pc := 20) dX9_buildWant_20 fl_X9_103 (shTown_0 hu) rfl ?_
    refine Ru_top bd.2.2.1 ?_
    refine Ru_iconst (pc := 23) (nI 1) dX9_buildWant_23 rfl ?_
    refine Ru_iaddN (pc := 24) dX9_buildWant_24 ?_
    refine Ru_putI (pc := 25) rfl dX9_buildWant_25 fl_X9_103 (shTown_0 hu) ?_
    generalize en2 : r_sI M u 12 (nI ((x.1 3) + 1)) = M2
    have st2 : ∀ o k, ¬ (o = u ∧ k = 12) → r_eq3 M M2 o k := fun o k h => by
      rw [← en2]
      exact ⟨r_sI_n h, rfl, rfl⟩
    have vl2 : M2.1 u 12 = (nI ((x.1 3) + 1)) := by
      rw [← en2]
      exact r_sI_s
    have hr2 : X_rd T cnt s M2 := X_rd_s0 hu en2 hr
    have cw2 := cw.st (by unfold pW; omega) en2
    refine Ru_aload_n (pc := 28) dX9_buildWant_28 rfl rfl ?_
    refine Ru_cv0 (pc := 29) dX9_buildWant_29 mv_X9_131 rfl (by decide) (Nat.le_of_ble_eq_true rfl) (c_X8_next (s := s) tw hr2 (by assumption) (by omega) (fun M3 gx3 (hr3 : X_rd T cnt (s.1 + 1, 0) M3) => ?_)) 
    have st3 : ∀ o k, ¬ (o = 40 ∧ 6 ≤ k ∧ k ≤ 8) → r_eq3 M2 M3 o k := fun o k h => r_ow.fx (P := fun _ _ => False) (gx3.mono rfl) o k h (fun z => z)
    have cw3 := cw2.fx1 (gx3.mono rfl)
    have e0 : wa0 T x s = (s.1 + 1, 0) := by
      unfold wa0
      rw [if_neg (by omega)]
      exact if_pos h0
    have hz0 : (wa0 T x s).2 = 0 := by rw [e0]
    rw [← e0] at hr3
    refine Ru_aload_n (pc := 32) dX9_buildWant_32 rfl rfl ?_
    refine Ru_getR (pc := 33) (u + 14) dX9_buildWant_33 fl_X9_48 (shTown_0 hu) rfl (rfX_of (o := u) (j := 14) (shTown_0 hu) rfl) ?_
    refine Ru_iload_n (pc := 36) dX9_buildWant_36 rfl rfl ?_
    refine Ru_aload_n (pc := 37) dX9_buildWant_37 rfl rfl ?_
    refine Ru_aload_n (pc := 38) dX9_buildWant_38 rfl rfl ?_
    refine Ru_getR (pc := 39) (u + 1) dX9_buildWant_39 fl_X9_14 (shTown_0 hu) rfl (rfX_of (o := u) (j := 1) (shTown_0 hu) rfl) ?_
    refine Ru_iconst (pc := 42) (nI 0) dX9_buildWant_42 rfl ?_
    refine Ru_cv2 (pc := 43) dX9_buildWant_43 mv_X9_137 rfl (by decide) (Nat.le_of_ble_eq_true rfl) (c_X8_named0 (s := (wa0 T x s)) (W := x.2) (b := 0) (n := x.1 0) tw hr3 (by assumption) (isNames_t hu).1 ((cw3 (u + 1) 2 (n40 hu (by decide)) (by unfold pW; omega)).1.trans bd.2.1.1.1) (by omega) (fun k hk => ⟨(cw3 (u + 2) k (n40 hu (by decide)) (by unfold pW; omega)).2.1.trans (bd.2.1.2.1 k hk).1, (bd.2.1.2.1 k hk).2⟩) (fun M4 gx4 (hr4 : X_rd T cnt (sNext (sOld T x.2 0 (x.1 0) (wa0 T x s))) M4) => ?_)) 
    have st4 : ∀ o k, ¬ (o = 40 ∧ 6 ≤ k ∧ k ≤ 8) → r_eq3 M3 M4 o k := fun o k h => r_ow.fx (P := fun _ _ => False) (gx4.mono rfl) o k h (fun z => z)
    have cw4 := cw3.fx1 (gx4.mono rfl)
    refine Ru_iast (pc := 46) rfl dX9_buildWant_46 (shTown_14 hu) (by omega) ?_
    generalize en5 : r_sI M4 (u + 14) (x.1 3) (if (sNext (sOld T x.2 0 (x.1 0) (wa0 T x s))).2 = 0 then nI (fN x.2 (tL T (wa0 T x s).1) 0 (x.1 0) - 1) else -1) = M5
    have st5 : ∀ o k, ¬ (o = (u + 14) ∧ k = (x.1 3)) → r_eq3 M4 M5 o k := fun o k h => by
      rw [← en5]
      exact ⟨r_sI_n h, rfl, rfl⟩
    have vl5 : M5.1 (u + 14) (x.1 3) = (if (sNext (sOld T x.2 0 (x.1 0) (wa0 T x s))).2 = 0 then nI (fN x.2 (tL T (wa0 T x s).1) 0 (x.1 0) - 1) else -1) := by
      rw [← en5]
      exact r_sI_s
    have hr5 : X_rd T cnt (wa1 T x s) M5 := X_rd_st hu (by decide) en5 hr4
    have cw5 := cw4.st (by unfold pW; omega) en5
    refine Ru_aload_n (pc := 47) dX9_buildWant_47 rfl rfl ?_
    refine Ru_getR (pc := 48) (u + 14) dX9_buildWant_48 fl_X9_48 (shTown_0 hu) rfl (rfX_of (o := u) (j := 14) (shTown_0 hu) rfl) ?_
    refine Ru_iload_n (pc := 51) dX9_buildWant_51 rfl rfl ?_
    refine Ru_iald (pc := 52) dX9_buildWant_52 (shTown_14 hu) (by omega) ?_
    refine Ru_top vl5 ?_
    refine Ru_iconst (pc := 53) (-1) dX9_buildWant_53 rfl ?_
    refine Ru_icmp_eqT (pc := 54) 67 dX9_buildWant_54 (by decide) (fun h2 => ?_) (fun h2 => ?_)
    · have hzf : ¬ (wa1 T x s).2 = 0 := (numb_iff _ (show fN x.2 (tL T (wa0 T x s).1) 0 (x.1 0) - 1 < 2147483648 by have := fN_le x.2 (tL T (wa0 T x s).1) 0 (x.1 0); omega)).mp h2
      refine Ru_iconst (pc := 67) (nI 0) dX9_buildWant_67 rfl ?_
      refine Ru_zret (pc := 68) dX9_buildWant_68 rfl ⟨Nat.le_refl _, Nat.le_refl _⟩ (Or.inl rfl) ?_
      have oww : r_ow (inT u) M M5 := cw5.mn (fun o k z => by
        have z2 := z
        unfold pW at z2
        unfold inT
        omega)
      have lmm : X_lm u M5 := ow_lm hu (fun j hj => by
        unfold pW
        omega) cw5 bd
      have eS : prE T (waS T x s) = (wa1 T x s) := wa_f1 hzf
      rw [eS] at k
      exact r_qe (r_b_f (decide_eq_false hzf)) (k M5 oww lmm hr5 (fun z => absurd z hzf))
    · have hz1 : (wa1 T x s).2 = 0 := Classical.byContradiction (fun z => h2 ((numb_iff _ (show fN x.2 (tL T (wa0 T x s).1) 0 (x.1 0) - 1 < 2147483648 by have := fN_le x.2 (tL T (wa0 T x s).1) 0 (x.1 0); omega)).mpr z))
      refine Ru_aload_n (pc := 57) dX9_buildWant_57 rfl rfl ?_
      refine Ru_sipush (pc := 58) (nI 142) dX9_buildWant_58 rfl ?_
      refine Ru_cv1 (pc := 61) dX9_buildWant_61 mv_X9_134 rfl (by decide) (Nat.le_of_ble_eq_true rfl) (c_X8_expect (s := (wa1 T x s)) (w := 142) tw hr5 (by assumption) (by decide) (fun M6 gx6 (hr6 : X_rd T cnt (sMust T (decide (tK T (wa1 T x s).1 = 142)) (wa1 T x s)) M6) => ?_)) 
      have st6 : ∀ o k, ¬ (o = 40 ∧ 6 ≤ k ∧ k ≤ 8) → r_eq3 M5 M6 o k := fun o k h => r_ow.fx (P := fun _ _ => False) (gx6.mono rfl) o k h (fun z => z)
      have cw6 := cw5.fx1 (gx6.mono rfl)
      refine Ru_if_neB (pc := 64) 69 dX9_buildWant_64 (by decide) (fun h3 => ?_) (fun h3 => ?_)
      · replace h3 := of_decide_eq_true h3
        have hz2 : (wa2 T x s).2 = 0 := h3
        refine Ru_aload_n (pc := 69) dX9_buildWant_69 rfl rfl ?_
        refine Ru_getR (pc := 70) (u + 15) dX9_buildWant_70 fl_X9_51 (shTown_0 hu) rfl (rfX_of (o := u) (j := 15) (shTown_0 hu) rfl) ?_
        refine Ru_iload_n (pc := 73) dX9_buildWant_73 rfl rfl ?_
        refine Ru_aload_n (pc := 74) dX9_buildWant_74 rfl rfl ?_
        refine Ru_iconst (pc := 75) (nI 0) dX9_buildWant_75 rfl ?_
        refine Ru_bipush (pc := 76) (nI 24) dX9_buildWant_76 rfl ?_
        refine Ru_cv2 (pc := 78) dX9_buildWant_78 mv_X9_141 rfl (by decide) (Nat.le_of_ble_eq_true rfl) (c_X8_number (s := (wa2 T x s)) (lo := 0) (hi := 24) tw hr6 (by assumption) (by decide) (fun M7 gx7 (hr7 : X_rd T cnt (sCount T 0 24 (wa2 T x s)) M7) => ?_)) 
        have st7 : ∀ o k, ¬ (o = 40 ∧ 6 ≤ k ∧ k ≤ 8) → r_eq3 M6 M7 o k := fun o k h => r_ow.fx (P := fun _ _ => False) (gx7.mono rfl) o k h (fun z => z)
        have cw7 := cw6.fx1 (gx7.mono rfl)
        refine Ru_iast (pc := 81) rfl dX9_buildWant_81 (shTown_15 hu) (by omega) ?_
        generalize en8 : r_sI M7 (u + 15) (x.1 3) (if (sCount T 0 24 (wa2 T x s)).2 = 0 then nI (tV T (wa2 T x s).1) else -1) = M8
        have st8 : ∀ o k, ¬ (o = (u + 15) ∧ k = (x.1 3)) → r_eq3 M7 M8 o k := fun o k h => by
          rw [← en8]
          exact ⟨r_sI_n h, rfl, rfl⟩
        have vl8 : M8.1 (u + 15) (x.1 3) = (if (sCount T 0 24 (wa2 T x s)).2 = 0 then nI (tV T (wa2 T x s).1) else -1) := by
          rw [← en8]
          exact r_sI_s
        have hr8 : X_rd T cnt (wa3 T x s) M8 := X_rd_st hu (by decide) en8 hr7
        have cw8 := cw7.st (by unfold pW; omega) en8
        refine Ru_aload_n (pc := 82) dX9_buildWant_82 rfl rfl ?_
        refine Ru_getR (pc := 83) (u + 15) dX9_buildWant_83 fl_X9_51 (shTown_0 hu) rfl (rfX_of (o := u) (j := 15) (shTown_0 hu) rfl) ?_
        refine Ru_iload_n (pc := 86) dX9_buildWant_86 rfl rfl ?_
        refine Ru_iald (pc := 87) dX9_buildWant_87 (shTown_15 hu) (by omega) ?_
        refine Ru_top vl8 ?_
        refine Ru_iconst (pc := 88) (-1) dX9_buildWant_88 rfl ?_
        refine Ru_icmp_eqT (pc := 89) 102 dX9_buildWant_89 (by decide) (fun h4 => ?_) (fun h4 => ?_)
        · have hzf : ¬ (wa3 T x s).2 = 0 := (numb_neg (by decide)).mp h4
          refine Ru_iconst (pc := 102) (nI 0) dX9_buildWant_102 rfl ?_
          refine Ru_zret (pc := 103) dX9_buildWant_103 rfl ⟨Nat.le_refl _, Nat.le_refl _⟩ (Or.inl rfl) ?_
          have oww : r_ow (inT u) M M8 := cw8.mn (fun o k z => by
            have z2 := z
            unfold pW at z2
            unfold inT
            omega)
          have lmm : X_lm u M8 := ow_lm hu (fun j hj => by
            unfold pW
            omega) cw8 bd
          have eS : prE T (waS T x s) = (wa3 T x s) := wa_f3 hzf
          rw [eS] at k
          exact r_qe (r_b_f (decide_eq_false hzf)) (k M8 oww lmm hr8 (fun z => absurd z hzf))
        · have hz3 : (wa3 T x s).2 = 0 := Classical.byContradiction (fun z => h4 ((numb_neg (by decide)).mpr z))
          refine Ru_aload_n (pc := 92) dX9_buildWant_92 rfl rfl ?_
          refine Ru_sipush (pc := 93) (nI 143) dX9_buildWant_93 rfl ?_
          refine Ru_cv1 (pc := 96) dX9_buildWant_96 mv_X9_134 rfl (by decide) (Nat.le_of_ble_eq_true rfl) (c_X8_expect (s := (wa3 T x s)) (w := 143) tw hr8 (by assumption) (by decide) (fun M9 gx9 (hr9 : X_rd T cnt (sMust T (decide (tK T (wa3 T x s).1 = 143)) (wa3 T x s)) M9) => ?_)) 
          have st9 : ∀ o k, ¬ (o = 40 ∧ 6 ≤ k ∧ k ≤ 8) → r_eq3 M8 M9 o k := fun o k h => r_ow.fx (P := fun _ _ => False) (gx9.mono rfl) o k h (fun z => z)
          have cw9 := cw8.fx1 (gx9.mono rfl)
          refine Ru_if_neB (pc := 99) 104 dX9_buildWant_99 (by decide) (fun h5 => ?_) (fun h5 => ?_)
          · replace h5 := of_decide_eq_true h5
            have hz4 : (wa4 T x s).2 = 0 := h5
            refine Ru_aload_n (pc := 104) dX9_buildWant_104 rfl rfl ?_
            refine Ru_getR (pc := 105) (u + 16) dX9_buildWant_105 fl_X9_54 (shTown_0 hu) rfl (rfX_of (o := u) (j := 16) (shTown_0 hu) rfl) ?_
            refine Ru_iload_n (pc := 108) dX9_buildWant_108 rfl rfl ?_
            refine Ru_aload_n (pc := 109) dX9_buildWant_109 rfl rfl ?_
            refine Ru_iconst (pc := 110) (nI 1) dX9_buildWant_110 rfl ?_
            refine Ru_sipush (pc := 111) (nI 999) dX9_buildWant_111 rfl ?_
            refine Ru_cv2 (pc := 114) dX9_buildWant_114 mv_X9_141 rfl (by decide) (Nat.le_of_ble_eq_true rfl) (c_X8_number (s := (wa4 T x s)) (lo := 1) (hi := 999) tw hr9 (by assumption) (by decide) (fun M10 gx10 (hr10 : X_rd T cnt (sCount T 1 999 (wa4 T x s)) M10) => ?_)) 
            have st10 : ∀ o k, ¬ (o = 40 ∧ 6 ≤ k ∧ k ≤ 8) → r_eq3 M9 M10 o k := fun o k h => r_ow.fx (P := fun _ _ => False) (gx10.mono rfl) o k h (fun z => z)
            have cw10 := cw9.fx1 (gx10.mono rfl)
            refine Ru_iast (pc := 117) rfl dX9_buildWant_117 (shTown_16 hu) (by omega) ?_
            generalize en11 : r_sI M10 (u + 16) (x.1 3) (if (sCount T 1 999 (wa4 T x s)).2 = 0 then nI (tV T (wa4 T x s).1) else -1) = M11
            have st11 : ∀ o k, ¬ (o = (u + 16) ∧ k = (x.1 3)) → r_eq3 M10 M11 o k := fun o k h => by
              rw [← en11]
              exact ⟨r_sI_n h, rfl, rfl⟩
            have vl11 : M11.1 (u + 16) (x.1 3) = (if (sCount T 1 999 (wa4 T x s)).2 = 0 then nI (tV T (wa4 T x s).1) else -1) := by
              rw [← en11]
              exact r_sI_s
            have hr11 : X_rd T cnt (wa5 T x s) M11 := X_rd_st hu (by decide) en11 hr10
            have cw11 := cw10.st (by unfold pW; omega) en11
            refine Ru_aload_n (pc := 118) dX9_buildWant_118 rfl rfl ?_
            refine Ru_getR (pc := 119) (u + 16) dX9_buildWant_119 fl_X9_54 (shTown_0 hu) rfl (rfX_of (o := u) (j := 16) (shTown_0 hu) rfl) ?_
            refine Ru_iload_n (pc := 122) dX9_buildWant_122 rfl rfl ?_
            refine Ru_iald (pc := 123) dX9_buildWant_123 (shTown_16 hu) (by omega) ?_
            refine Ru_top vl11 ?_
            refine Ru_iconst (pc := 124) (-1) dX9_buildWant_124 rfl ?_
            refine Ru_icmp_neT (pc := 125) 130 dX9_buildWant_125 (by decide) (fun h6 => ?_) (fun h6 => ?_)
            · have hz5 : (wa5 T x s).2 = 0 := Classical.byContradiction (fun z => h6 ((numb_neg (by decide)).mpr z))
              refine Ru_aload_n (pc := 130) dX9_buildWant_130 rfl rfl ?_
              refine Ru_cv0 (pc := 131) dX9_buildWant_131 mv_X9_80 rfl (by decide) (Nat.le_of_ble_eq_true rfl) (c_X8_kind (s := (wa5 T x s)) tw hr11 (by assumption) ?_) 
              refine Ru_sipush (pc := 134) (nI 144) dX9_buildWant_134 rfl ?_
              refine Ru_icmp_neN (pc := 137) 156 dX9_buildWant_137 (by decide) ⟨tK_rg _ _, by decide⟩ (fun h7 => ?_) (fun h7 => ?_)
              · refine Ru_aload_n (pc := 156) dX9_buildWant_156 rfl rfl ?_
                refine Ru_bipush (pc := 157) (nI 59) dX9_buildWant_157 rfl ?_
                refine Ru_cv1 (pc := 159) dX9_buildWant_159 mv_X9_134 rfl (by decide) (Nat.le_of_ble_eq_true rfl) (c_X8_expect (s := (wa5 T x s)) (w := 59) tw hr11 (by assumption) (by decide) (fun M12 gx12 (hr12 : X_rd T cnt (sMust T (decide (tK T (wa5 T x s).1 = 59)) (wa5 T x s)) M12) => ?_)) 
                have st12 : ∀ o k, ¬ (o = 40 ∧ 6 ≤ k ∧ k ≤ 8) → r_eq3 M11 M12 o k := fun o k h => r_ow.fx (P := fun _ _ => False) (gx12.mono rfl) o k h (fun z => z)
                have cw12 := cw11.fx1 (gx12.mono rfl)
                refine Ru_zret (pc := 162) dX9_buildWant_162 rfl ⟨Nat.le_refl _, Nat.le_refl _⟩ (r_b_01 _) ?_
                have oww : r_ow (inT u) M M12 := cw12.mn (fun o k z => by
                  have z2 := z
                  unfold pW at z2
                  unfold inT
                  omega)
                have lmm : X_lm u M12 := ow_lm hu (fun j hj => by
                  unfold pW
                  omega) cw12 bd
                have e6 : waS T x s = wa5 T x s := sIf_m (by assumption)
                have eI : bIf T 144 (wa5 T x s) = 0 := bIf_m (by assumption)
                have eS : prE T (waS T x s) = (sMust T (decide (tK T (wa5 T x s).1 = 59)) (wa5 T x s)) := by
                  unfold prE
                  rw [e6]
                have bdn : X_bd u (waX T x s) M12 := by
                  have tc := waX_c (T := T) (s := s) hlt
                  rw [eI] at tc
                  refine X_bd_wa (M := M) bd wf hlt (e := 0) (by decide) tc.1 tc.2.1 tc.2.2 (fun o k h1 h2 h3 h4 => ?_) ?_ ⟨?_, ?_, ?_⟩ ?_
                  · exact cw12 o k (fun z => by rcases hT with h | h | h | h | h <;> omega) (by unfold pW; omega)
                  · exact ((e3t (e3t (e3t (e3t (e3t (e3t (e3t (e3t (e3t (st3 u 12 (n40 (j := 0) hu (by decide))) (st4 u 12 (n40 (j := 0) hu (by decide)))) (st5 u 12 (n0u (by decide)))) (st6 u 12 (n40 (j := 0) hu (by decide)))) (st7 u 12 (n40 (j := 0) hu (by decide)))) (st8 u 12 (n0u (by decide)))) (st9 u 12 (n40 (j := 0) hu (by decide)))) (st10 u 12 (n40 (j := 0) hu (by decide)))) (st11 u 12 (n0u (by decide)))) (st12 u 12 (n40 (j := 0) hu (by decide)))).1.trans vl2)
                  · exact ((e3t (e3t (e3t (e3t (e3t (e3t (st6 (u + 14) (x.1 3) (n40 (j := 14) hu (by decide))) (st7 (u + 14) (x.1 3) (n40 (j := 14) hu (by decide)))) (st8 (u + 14) (x.1 3) (nuj (by decide)))) (st9 (u + 14) (x.1 3) (n40 (j := 14) hu (by decide)))) (st10 (u + 14) (x.1 3) (n40 (j := 14) hu (by decide)))) (st11 (u + 14) (x.1 3) (nuj (by decide)))) (st12 (u + 14) (x.1 3) (n40 (j := 14) hu (by decide)))).1.trans vl5).trans (if_pos hz1)
                  · exact ((e3t (e3t (e3t (st9 (u + 15) (x.1 3) (n40 (j := 15) hu (by decide))) (st10 (u + 15) (x.1 3) (n40 (j := 15) hu (by decide)))) (st11 (u + 15) (x.1 3) (nuj (by decide)))) (st12 (u + 15) (x.1 3) (n40 (j := 15) hu (by decide)))).1.trans vl8).trans (if_pos hz3)
                  · exact ((st12 (u + 16) (x.1 3) (n40 (j := 16) hu (by decide))).1.trans vl11).trans (if_pos hz5)
                  · exact (e3t (e3t (e3t (e3t (e3t (e3t (e3t (e3t (e3t (e3t (st2 u 16 (fun z => absurd z.2 (by decide))) (st3 u 16 (n40 (j := 0) hu (by decide)))) (st4 u 16 (n40 (j := 0) hu (by decide)))) (st5 u 16 (n0u (by decide)))) (st6 u 16 (n40 (j := 0) hu (by decide)))) (st7 u 16 (n40 (j := 0) hu (by decide)))) (st8 u 16 (n0u (by decide)))) (st9 u 16 (n40 (j := 0) hu (by decide)))) (st10 u 16 (n40 (j := 0) hu (by decide)))) (st11 u 16 (n0u (by decide)))) (st12 u 16 (n40 (j := 0) hu (by decide)))).1.trans bd.2.2.2.1.2.2
                rw [eS] at k
                exact k M12 oww lmm hr12 (fun _ => bdn)
              · refine Ru_aload_n (pc := 140) dX9_buildWant_140 rfl rfl ?_
                refine Ru_dup (pc := 141) dX9_buildWant_141 rfl ?_
                refine Ru_getI (pc := 142) dX9_buildWant_142 fl_X9_106 (shTown_0 hu) rfl ?_
                refine Ru_top ((e3t (e3t (e3t (e3t (e3t (e3t (e3t (e3t (e3t (st2 u 16 (fun z => absurd z.2 (by decide))) (st3 u 16 (n40 (j := 0) hu (by decide)))) (st4 u 16 (n40 (j := 0) hu (by decide)))) (st5 u 16 (n0u (by decide)))) (st6 u 16 (n40 (j := 0) hu (by decide)))) (st7 u 16 (n40 (j := 0) hu (by decide)))) (st8 u 16 (n0u (by decide)))) (st9 u 16 (n40 (j := 0) hu (by decide)))) (st10 u 16 (n40 (j := 0) hu (by decide)))) (st11 u 16 (n0u (by decide)))).1.trans bd.2.2.2.1.2.2) ?_
                refine Ru_iconst (pc := 145) (nI 1) dX9_buildWant_145 rfl ?_
                refine Ru_iload_n (pc := 146) dX9_buildWant_146 rfl rfl ?_
                refine Ru_ishl1N (pc := 147) dX9_buildWant_147 (by omega) ?_
                refine Ru_iorN (pc := 148) dX9_buildWant_148 ?_
                refine Ru_putI (pc := 149) rfl dX9_buildWant_149 fl_X9_106 (shTown_0 hu) ?_
                generalize en12 : r_sI M11 u 16 (nI ((bt (fun i => x.1 (131 + i)) 8) ||| (2 ^ (x.1 3)))) = M12
                have st12 : ∀ o k, ¬ (o = u ∧ k = 16) → r_eq3 M11 M12 o k := fun o k h => by
                  rw [← en12]
                  exact ⟨r_sI_n h, rfl, rfl⟩
                have vl12 : M12.1 u 16 = (nI ((bt (fun i => x.1 (131 + i)) 8) ||| (2 ^ (x.1 3)))) := by
                  rw [← en12]
                  exact r_sI_s
                have hr12 : X_rd T cnt (wa5 T x s) M12 := X_rd_s0 hu en12 hr11
                have cw12 := cw11.st (by unfold pW; omega) en12
                refine Ru_aload_n (pc := 152) dX9_buildWant_152 rfl rfl ?_
                refine Ru_cv0 (pc := 153) dX9_buildWant_153 mv_X9_131 rfl (by decide) (Nat.le_of_ble_eq_true rfl) (c_X8_next (s := (wa5 T x s)) tw hr12 (by assumption) (by show ¬ tK T ((wa5 T x s).1) = 0; omega) (fun M13 gx13 (hr13 : X_rd T cnt ((wa5 T x s).1 + 1, 0) M13) => ?_)) 
                have st13 : ∀ o k, ¬ (o = 40 ∧ 6 ≤ k ∧ k ≤ 8) → r_eq3 M12 M13 o k := fun o k h => r_ow.fx (P := fun _ _ => False) (gx13.mono rfl) o k h (fun z => z)
                have cw13 := cw12.fx1 (gx13.mono rfl)
                refine Ru_aload_n (pc := 156) dX9_buildWant_156 rfl rfl ?_
                refine Ru_bipush (pc := 157) (nI 59) dX9_buildWant_157 rfl ?_
                refine Ru_cv1 (pc := 159) dX9_buildWant_159 mv_X9_134 rfl (by decide) (Nat.le_of_ble_eq_true rfl) (c_X8_expect (s := ((wa5 T x s).1 + 1, 0)) (w := 59) tw hr13 rfl (by decide) (fun M14 gx14 (hr14 : X_rd T cnt (sMust T (decide (tK T ((wa5 T x s).1 + 1) = 59)) ((wa5 T x s).1 + 1, 0)) M14) => ?_)) 
                have st14 : ∀ o k, ¬ (o = 40 ∧ 6 ≤ k ∧ k ≤ 8) → r_eq3 M13 M14 o k := fun o k h => r_ow.fx (P := fun _ _ => False) (gx14.mono rfl) o k h (fun z => z)
                have cw14 := cw13.fx1 (gx14.mono rfl)
                refine Ru_zret (pc := 162) dX9_buildWant_162 rfl ⟨Nat.le_refl _, Nat.le_refl _⟩ (r_b_01 _) ?_
                have oww : r_ow (inT u) M M14 := cw14.mn (fun o k z => by
                  have z2 := z
                  unfold pW at z2
                  unfold inT
                  omega)
                have lmm : X_lm u M14 := ow_lm hu (fun j hj => by
                  unfold pW
                  omega) cw14 bd
                have e6 : waS T x s = ((wa5 T x s).1 + 1, 0) := sIf_y hz5 (by assumption)
                have eI : bIf T 144 (wa5 T x s) = 1 := bIf_y hz5 (by assumption)
                have eS : prE T (waS T x s) = (sMust T (decide (tK T ((wa5 T x s).1 + 1) = 59)) ((wa5 T x s).1 + 1, 0)) := by
                  unfold prE
                  rw [e6]
                have bdn : X_bd u (waX T x s) M14 := by
                  have tc := waX_c (T := T) (s := s) hlt
                  rw [eI] at tc
                  refine X_bd_wa (M := M) bd wf hlt (e := 1) (by decide) tc.1 tc.2.1 tc.2.2 (fun o k h1 h2 h3 h4 => ?_) ?_ ⟨?_, ?_, ?_⟩ ?_
                  · exact cw14 o k (fun z => by rcases hT with h | h | h | h | h <;> omega) (by unfold pW; omega)
                  · exact ((e3t (e3t (e3t (e3t (e3t (e3t (e3t (e3t (e3t (e3t (e3t (st3 u 12 (n40 (j := 0) hu (by decide))) (st4 u 12 (n40 (j := 0) hu (by decide)))) (st5 u 12 (n0u (by decide)))) (st6 u 12 (n40 (j := 0) hu (by decide)))) (st7 u 12 (n40 (j := 0) hu (by decide)))) (st8 u 12 (n0u (by decide)))) (st9 u 12 (n40 (j := 0) hu (by decide)))) (st10 u 12 (n40 (j := 0) hu (by decide)))) (st11 u 12 (n0u (by decide)))) (st12 u 12 (fun z => absurd z.2 (by decide)))) (st13 u 12 (n40 (j := 0) hu (by decide)))) (st14 u 12 (n40 (j := 0) hu (by decide)))).1.trans vl2)
                  · exact ((e3t (e3t (e3t (e3t (e3t (e3t (e3t (e3t (st6 (u + 14) (x.1 3) (n40 (j := 14) hu (by decide))) (st7 (u + 14) (x.1 3) (n40 (j := 14) hu (by decide)))) (st8 (u + 14) (x.1 3) (nuj (by decide)))) (st9 (u + 14) (x.1 3) (n40 (j := 14) hu (by decide)))) (st10 (u + 14) (x.1 3) (n40 (j := 14) hu (by decide)))) (st11 (u + 14) (x.1 3) (nuj (by decide)))) (st12 (u + 14) (x.1 3) (nu0 (by decide)))) (st13 (u + 14) (x.1 3) (n40 (j := 14) hu (by decide)))) (st14 (u + 14) (x.1 3) (n40 (j := 14) hu (by decide)))).1.trans vl5).trans (if_pos hz1)
                  · exact ((e3t (e3t (e3t (e3t (e3t (st9 (u + 15) (x.1 3) (n40 (j := 15) hu (by decide))) (st10 (u + 15) (x.1 3) (n40 (j := 15) hu (by decide)))) (st11 (u + 15) (x.1 3) (nuj (by decide)))) (st12 (u + 15) (x.1 3) (nu0 (by decide)))) (st13 (u + 15) (x.1 3) (n40 (j := 15) hu (by decide)))) (st14 (u + 15) (x.1 3) (n40 (j := 15) hu (by decide)))).1.trans vl8).trans (if_pos hz3)
                  · exact ((e3t (e3t (st12 (u + 16) (x.1 3) (nu0 (by decide))) (st13 (u + 16) (x.1 3) (n40 (j := 16) hu (by decide)))) (st14 (u + 16) (x.1 3) (n40 (j := 16) hu (by decide)))).1.trans vl11).trans (if_pos hz5)
                  · exact ((e3t (st13 u 16 (n40 (j := 0) hu (by decide))) (st14 u 16 (n40 (j := 0) hu (by decide)))).1.trans vl12)
                rw [eS] at k
                exact k M14 oww lmm hr14 (fun _ => bdn)
            · have hzf : ¬ (wa5 T x s).2 = 0 := (numb_neg (by decide)).mp h6
              refine Ru_iconst (pc := 128) (nI 0) dX9_buildWant_128 rfl ?_
              refine Ru_zret (pc := 129) dX9_buildWant_129 rfl ⟨Nat.le_refl _, Nat.le_refl _⟩ (Or.inl rfl) ?_
              have oww : r_ow (inT u) M M11 := cw11.mn (fun o k z => by
                have z2 := z
                unfold pW at z2
                unfold inT
                omega)
              have lmm : X_lm u M11 := ow_lm hu (fun j hj => by
                unfold pW
                omega) cw11 bd
              have eS : prE T (waS T x s) = (wa5 T x s) := wa_f5 hzf
              rw [eS] at k
              exact r_qe (r_b_f (decide_eq_false hzf)) (k M11 oww lmm hr11 (fun z => absurd z hzf))
          · replace h5 := of_decide_eq_false h5
            have hzf : ¬ (wa4 T x s).2 = 0 := h5
            refine Ru_iconst (pc := 102) (nI 0) dX9_buildWant_102 rfl ?_
            refine Ru_zret (pc := 103) dX9_buildWant_103 rfl ⟨Nat.le_refl _, Nat.le_refl _⟩ (Or.inl rfl) ?_
            have oww : r_ow (inT u) M M9 := cw9.mn (fun o k z => by
              have z2 := z
              unfold pW at z2
              unfold inT
              omega)
            have lmm : X_lm u M9 := ow_lm hu (fun j hj => by
              unfold pW
              omega) cw9 bd
            have eS : prE T (waS T x s) = (wa4 T x s) := wa_f4 hzf
            rw [eS] at k
            exact r_qe (r_b_f (decide_eq_false hzf)) (k M9 oww lmm hr9 (fun z => absurd z hzf))
      · replace h3 := of_decide_eq_false h3
        have hzf : ¬ (wa2 T x s).2 = 0 := h3
        refine Ru_iconst (pc := 67) (nI 0) dX9_buildWant_67 rfl ?_
        refine Ru_zret (pc := 68) dX9_buildWant_68 rfl ⟨Nat.le_refl _, Nat.le_refl _⟩ (Or.inl rfl) ?_
        have oww : r_ow (inT u) M M6 := cw6.mn (fun o k z => by
          have z2 := z
          unfold pW at z2
          unfold inT
          omega)
        have lmm : X_lm u M6 := ow_lm hu (fun j hj => by
          unfold pW
          omega) cw6 bd
        have eS : prE T (waS T x s) = (wa2 T x s) := wa_f2 hzf
        rw [eS] at k
        exact r_qe (r_b_f (decide_eq_false hzf)) (k M6 oww lmm hr6 (fun z => absurd z hzf))
  · refine Ru_aload_n (pc := 11) dX9_buildWant_11 rfl rfl ?_
    refine Ru_bipush (pc := 12) (nI 6) dX9_buildWant_12 rfl ?_
    refine Ru_cv1 (pc := 14) dX9_buildWant_14 mv_X9_123 rfl (by decide) (Nat.le_of_ble_eq_true rfl) (c_X8_refuse (s := s) (f := 6) tw hr (by assumption) (by decide) (fun M2 gx2 hr2 => ?_)) 
    have st2 : ∀ o k, ¬ (o = 40 ∧ 6 ≤ k ∧ k ≤ 8) → r_eq3 M M2 o k := fun o k h => r_ow.fx (P := fun _ _ => False) (gx2.mono rfl) o k h (fun z => z)
    have cw2 := cw.fx1 (gx2.mono rfl)
    refine Ru_zret (pc := 17) dX9_buildWant_17 rfl ⟨Nat.le_refl _, Nat.le_refl _⟩ (Or.inl rfl) ?_
    have oww : r_ow (inT u) M M2 := cw2.mn (fun o k z => by
      have z2 := z
      unfold pW at z2
      unfold inT
      omega)
    have lmm : X_lm u M2 := ow_lm hu (fun j hj => by
      unfold pW
      omega) cw2 bd
    have e0 : wa0 T x s = sRf T 6 s := by
      unfold wa0 sRf
      rw [if_pos (by omega), if_neg (by omega)]
      have e1 : sFail 6 s = (s.1, 6) := if_pos h0
      rw [e1]
      exact sNext_f (fun z => Nat.noConfusion z)
    have hzf : ¬ (wa0 T x s).2 = 0 := by
      rw [e0]
      exact sRf_n (by decide)
    have eS := wa_f0 hzf
    rw [← e0] at hr2
    rw [eS] at k
    exact r_qe (r_b_f (decide_eq_false hzf)) (k M2 oww lmm hr2 (fun z => absurd z hzf))
