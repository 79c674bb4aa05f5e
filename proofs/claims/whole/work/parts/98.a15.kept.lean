-- WHY A JOB OF THE NIGHT CAN'T BE
def jK (d : Td) (j : Nat) : Nat := if d (521 + 5 * j) = 1 then (if d (5 + d (523 + 5 * j)) = 1 then 0 else 5) else if d (521 + 5 * j) = 3 then (if d (13 + d (523 + 5 * j)) = 1 then 0 else 5) else if twAw d = true then 0 else 5

theorem c_X1_whyNotKept {Q : Rq} {M : Mem} {mk t lw pl j : Nat} {d : Td} (hu : X_cu mk t lw pl d M) (hx : X_tm t d M) (wf : Wf d) (wj : Wj d) (hpj : X_pj pl d M) (hj : j < d 4) (hk0 : d (521 + 5 * j) ≠ 0) (k : Q (some (.int (nI (jK d j)))) GX M) : Ca 1 mt_X1_whyNotKept 0 0 [.ref t, .int (nI j)] GX M Q := by
  refine Ca_of rfl (Nat.le_of_ble_eq_true rfl) ?_
  have hb := wf.1
  have ht : isTown t := hu.1.2.2.2
  have hpl : isPlan pl := hu.2.2.2.1
  have hw0 := (wj j hj).2.2 hk0
  have hw3 := (wj j hj).1
  have l5 : bt (fun i => d (5 + i)) 8 < 2 ^ 8 := bt_lt (fun i hi => (wf.2.1 i hi).1)
  have l13 : bt (fun i => d (13 + i)) 8 < 2 ^ 8 := bt_lt (fun i hi => (wf.2.1 i hi).2.1)
  have t5 := bt_tb (f := fun i => d (5 + i)) (n := 8) (t := d (523 + 5 * j)) (fun i hi => (wf.2.1 i hi).1) (by omega)
  have t13 := bt_tb (f := fun i => d (13 + i)) (n := 8) (t := d (523 + 5 * j)) (fun i hi => (wf.2.1 i hi).2.1) (by omega)
  refine Ru_aload_n (pc := 0) dX1_whyNotKept_0 rfl rfl ?_
  refine Ru_getR (pc := 1) pl dX1_whyNotKept_1 fl_X1_49 (shTown_0 ht) rfl ((rfX_mut (shTown_0 ht) rfl).trans hu.2.2.1) ?_
  refine Ru_getR (pc := 4) (pl + 1) dX1_whyNotKept_4 fl_X1_109 (shPlan_0 hpl) rfl (rfX_of (o := pl) (j := 1) (shPlan_0 hpl) rfl) ?_
  refine Ru_iload_n (pc := 7) dX1_whyNotKept_7 rfl rfl ?_
  refine Ru_iald (pc := 8) dX1_whyNotKept_8 (shPlan_1 hpl) (by omega) ?_
  refine Ru_top (hpj j (by omega)).1 ?_
  have h4 : d (521 + 5 * j) = 1 ∨ d (521 + 5 * j) = 3 ∨ d (521 + 5 * j) = 2 := by omega
  rcases h4 with z | z | z
  · rw [z]
    refine Ru_lookup (pc := 9) (off := 27) 36 dX1_whyNotKept_9 (by decide) rfl (by decide) ?_
    refine Ru_aload_n (pc := 36) dX1_whyNotKept_36 rfl rfl ?_
    refine Ru_getI (pc := 37) dX1_whyNotKept_37 fl_X1_146 (shTown_0 ht) rfl ?_
    refine Ru_top hx.2.1.1 ?_
    refine Ru_aload_n (pc := 40) dX1_whyNotKept_40 rfl rfl ?_
    refine Ru_getR (pc := 41) pl dX1_whyNotKept_41 fl_X1_49 (shTown_0 ht) rfl ((rfX_mut (shTown_0 ht) rfl).trans hu.2.2.1) ?_
    refine Ru_getR (pc := 44) (pl + 3) dX1_whyNotKept_44 fl_X1_119 (shPlan_0 hpl) rfl (rfX_of (o := pl) (j := 3) (shPlan_0 hpl) rfl) ?_
    refine Ru_iload_n (pc := 47) dX1_whyNotKept_47 rfl rfl ?_
    refine Ru_iald (pc := 48) dX1_whyNotKept_48 (shPlan_3 hpl) (by omega) ?_
    refine Ru_top (hpj j (by omega)).2.2.1 ?_
    refine Ru_ishrN (pc := 49) dX1_whyNotKept_49 (by omega) ?_
    refine Ru_iconst (pc := 50) (nI 1) dX1_whyNotKept_50 rfl ?_
    refine Ru_iandN (pc := 51) dX1_whyNotKept_51 ?_
    refine Ru_if_eqN (pc := 52) 59 dX1_whyNotKept_52 (by decide) (Nat.lt_of_le_of_lt Nat.and_le_right (by decide)) (fun h1 => ?_) (fun h1 => ?_)
    · have h1b := r_b1_f h1
      refine Ru_iconst (pc := 59) (nI 0) dX1_whyNotKept_59 rfl ?_
      refine Ru_istore_n (pc := 60) dX1_whyNotKept_60 rfl rfl (by decide) ?_
      refine Ru_goto (pc := 61) 97 dX1_whyNotKept_61 (by decide) ?_
      refine Ru_iload_n (pc := 97) dX1_whyNotKept_97 rfl rfl ?_
      refine Ru_if_eqN (pc := 98) 105 dX1_whyNotKept_98 (by decide) (by omega) (fun h2 => ?_) (fun h2 => ?_)
      · refine Ru_iconst (pc := 105) (nI 5) dX1_whyNotKept_105 rfl ?_
        refine Ru_iret (pc := 106) dX1_whyNotKept_106 rfl ⟨Nat.le_refl _, Nat.le_refl _⟩ ?_
        have e : jK d j = 5 := by
          unfold jK
          simp_all
        rw [e] at k
        exact k
      · exfalso
        omega
    · have h1b := r_b1_t h1
      refine Ru_iconst (pc := 55) (nI 1) dX1_whyNotKept_55 rfl ?_
      refine Ru_goto (pc := 56) 60 dX1_whyNotKept_56 (by decide) ?_
      refine Ru_istore_n (pc := 60) dX1_whyNotKept_60 rfl rfl (by decide) ?_
      refine Ru_goto (pc := 61) 97 dX1_whyNotKept_61 (by decide) ?_
      refine Ru_iload_n (pc := 97) dX1_whyNotKept_97 rfl rfl ?_
      refine Ru_if_eqN (pc := 98) 105 dX1_whyNotKept_98 (by decide) (by omega) (fun h3 => ?_) (fun h3 => ?_)
      · exfalso
        omega
      · refine Ru_iconst (pc := 101) (nI 0) dX1_whyNotKept_101 rfl ?_
        refine Ru_goto (pc := 102) 106 dX1_whyNotKept_102 (by decide) ?_
        refine Ru_iret (pc := 106) dX1_whyNotKept_106 rfl ⟨Nat.le_refl _, Nat.le_refl _⟩ ?_
        have e : jK d j = 0 := by
          unfold jK
          simp_all
        rw [e] at k
        exact k
  · rw [z]
    refine Ru_lookup (pc := 9) (off := 55) 64 dX1_whyNotKept_9 (by decide) rfl (by decide) ?_
    refine Ru_aload_n (pc := 64) dX1_whyNotKept_64 rfl rfl ?_
    refine Ru_getI (pc := 65) dX1_whyNotKept_65 fl_X1_149 (shTown_0 ht) rfl ?_
    refine Ru_top hx.2.1.2.1 ?_
    refine Ru_aload_n (pc := 68) dX1_whyNotKept_68 rfl rfl ?_
    refine Ru_getR (pc := 69) pl dX1_whyNotKept_69 fl_X1_49 (shTown_0 ht) rfl ((rfX_mut (shTown_0 ht) rfl).trans hu.2.2.1) ?_
    refine Ru_getR (pc := 72) (pl + 3) dX1_whyNotKept_72 fl_X1_119 (shPlan_0 hpl) rfl (rfX_of (o := pl) (j := 3) (shPlan_0 hpl) rfl) ?_
    refine Ru_iload_n (pc := 75) dX1_whyNotKept_75 rfl rfl ?_
    refine Ru_iald (pc := 76) dX1_whyNotKept_76 (shPlan_3 hpl) (by omega) ?_
    refine Ru_top (hpj j (by omega)).2.2.1 ?_
    refine Ru_ishrN (pc := 77) dX1_whyNotKept_77 (by omega) ?_
    refine Ru_iconst (pc := 78) (nI 1) dX1_whyNotKept_78 rfl ?_
    refine Ru_iandN (pc := 79) dX1_whyNotKept_79 ?_
    refine Ru_if_eqN (pc := 80) 87 dX1_whyNotKept_80 (by decide) (Nat.lt_of_le_of_lt Nat.and_le_right (by decide)) (fun h4 => ?_) (fun h4 => ?_)
    · have h4b := r_b1_f h4
      refine Ru_iconst (pc := 87) (nI 0) dX1_whyNotKept_87 rfl ?_
      refine Ru_istore_n (pc := 88) dX1_whyNotKept_88 rfl rfl (by decide) ?_
      refine Ru_goto (pc := 89) 97 dX1_whyNotKept_89 (by decide) ?_
      refine Ru_iload_n (pc := 97) dX1_whyNotKept_97 rfl rfl ?_
      refine Ru_if_eqN (pc := 98) 105 dX1_whyNotKept_98 (by decide) (by omega) (fun h5 => ?_) (fun h5 => ?_)
      · refine Ru_iconst (pc := 105) (nI 5) dX1_whyNotKept_105 rfl ?_
        refine Ru_iret (pc := 106) dX1_whyNotKept_106 rfl ⟨Nat.le_refl _, Nat.le_refl _⟩ ?_
        have e : jK d j = 5 := by
          unfold jK
          simp_all
        rw [e] at k
        exact k
      · exfalso
        omega
    · have h4b := r_b1_t h4
      refine Ru_iconst (pc := 83) (nI 1) dX1_whyNotKept_83 rfl ?_
      refine Ru_goto (pc := 84) 88 dX1_whyNotKept_84 (by decide) ?_
      refine Ru_istore_n (pc := 88) dX1_whyNotKept_88 rfl rfl (by decide) ?_
      refine Ru_goto (pc := 89) 97 dX1_whyNotKept_89 (by decide) ?_
      refine Ru_iload_n (pc := 97) dX1_whyNotKept_97 rfl rfl ?_
      refine Ru_if_eqN (pc := 98) 105 dX1_whyNotKept_98 (by decide) (by omega) (fun h6 => ?_) (fun h6 => ?_)
      · exfalso
        omega
      · refine Ru_iconst (pc := 101) (nI 0) dX1_whyNotKept_101 rfl ?_
        refine Ru_goto (pc := 102) 106 dX1_whyNotKept_102 (by decide) ?_
        refine Ru_iret (pc := 106) dX1_whyNotKept_106 rfl ⟨Nat.le_refl _, Nat.le_refl _⟩ ?_
        have e : jK d j = 0 := by
          unfold jK
          simp_all
        rw [e] at k
        exact k
  · rw [z]
    refine Ru_lookup (pc := 9) (off := 83) 92 dX1_whyNotKept_9 (by decide) rfl (by decide) ?_
    refine Ru_aload_n (pc := 92) dX1_whyNotKept_92 rfl rfl ?_
    refine Ru_cv0 (pc := 93) dX1_whyNotKept_93 mv_X1_152 (shTown_0 ht) (by decide) (Nat.le_of_ble_eq_true rfl) (c_X9_isAwake ht hx wf ?_) 
    refine Ru_istore_n (pc := 96) dX1_whyNotKept_96 rfl rfl (by decide) ?_
    refine Ru_iload_n (pc := 97) dX1_whyNotKept_97 rfl rfl ?_
    refine Ru_if_eqB (pc := 98) 105 dX1_whyNotKept_98 (by decide) (fun h7 => ?_) (fun h7 => ?_)
    · refine Ru_iconst (pc := 105) (nI 5) dX1_whyNotKept_105 rfl ?_
      refine Ru_iret (pc := 106) dX1_whyNotKept_106 rfl ⟨Nat.le_refl _, Nat.le_refl _⟩ ?_
      have e : jK d j = 5 := by
        unfold jK
        simp_all
      rw [e] at k
      exact k
    · refine Ru_iconst (pc := 101) (nI 0) dX1_whyNotKept_101 rfl ?_
      refine Ru_goto (pc := 102) 106 dX1_whyNotKept_102 (by decide) ?_
      refine Ru_iret (pc := 106) dX1_whyNotKept_106 rfl ⟨Nat.le_refl _, Nat.le_refl _⟩ ?_
      have e : jK d j = 0 := by
        unfold jK
        simp_all
      rw [e] at k
      exact k
