-- DEEDS OF THE DEVELOPERS' OWN: a day
theorem sNd_lt {d : Td} (wf : Wf d) {m : Nat} (hm : m < d 1) : sNd d m < 2 ^ d 0 := by
  have h := wf.2.2.2.2.1 m hm
  exact Nat.or_lt_two_pow h.2.2.2.1 h.2.2.2.2.1
theorem X_jt_cp {n : Nat} {q : Jt} {M M' : Mem} (h : X_jt n q M) (h1 : M'.1 70 0 = M.1 70 0) (h2 : ∀ i, M'.1 72 i = M.1 72 i) (h3 : M'.1 67 3 = M.1 67 3) (h4 : M'.1 67 2 = M.1 67 2) : X_jt n q M' := ⟨h1.trans h.1, fun i hi => (h2 i).trans (h.2.1 i hi), ⟨h3.trans h.2.2.1.1, h.2.2.1.2⟩, fun z => h4.trans (h.2.2.2 z)⟩
theorem X_jt_fx {n : Nat} {q : Jt} {M M' : Mem} {F : List (Nat × Nat)} {A : List Nat} (fx : r_fx F A M M') (h : X_jt n q M) (hi : ∀ k, r_in F A 72 k = false) (h0 : r_in F A 70 0 = false) (h3 : r_in F A 67 3 = false) (h2 : r_in F A 67 2 = false) : X_jt n q M' := X_jt_cp h (fx 70 0 h0).1 (fun i => (fx 72 i (hi i)).1) (fx 67 3 h3).1 (fx 67 2 h2).1
theorem jTo_no {d : Td} {q : Jt} {n kd : Nat} (hkd : ¬ kd = 0) (h : (¬ d (521 + 5 * n) = kd) ∨ (jN d q (n + 1)).2.1 n = true) : jTo d (jN d q (n + 1)).2.1 kd (n + 1) = jTo d (jN d q n).2.1 kd n := by
  rw [jTo, if_neg]
  · refine jTo_cg n (fun i hi _ => ?_) hkd
    rw [jN]
    split
    · exact jL_ne (by omega)
    · rfl
  · rintro ⟨z1, z2⟩
    rcases h with h | h
    · exact h z1
    · rw [h] at z2
      cases z2
theorem jTo_yes {d : Td} {q : Jt} {n kd : Nat} (h : d (521 + 5 * n) = kd) (h2 : (jN d q (n + 1)).2.1 n = false) : jTo d (jN d q (n + 1)).2.1 kd (n + 1) = d (523 + 5 * n) + 1 := by
  rw [jTo, if_pos ⟨h, h2⟩]
theorem jL_lack {q : Jt} {j v : Nat} (h : ¬ r_dif v q.1 = 0) : (jL q j v).2.1 j = true := by
  unfold jL
  rw [if_neg h]
  show (if j = j then true else _) = true
  rw [if_pos rfl]
theorem jL_no {q : Jt} {j v : Nat} (h : r_dif v q.1 = 0) : jL q j v = q := if_pos h

theorem c_X1_begin {Q : Rq} {M : Mem} {mk t lw pl j : Nat} {d : Td} (hu : X_cu mk t lw pl d M) (hx : X_tm t d M) (wf : Wf d) (wj : Wj d) (hpj : X_pj pl d M) (hj : j < d 4) {q : Jt} {g : Nat → Nat} (hk0 : d (521 + 5 * j) = 0) (hEj : jE d j ≤ 24) (hq : X_jt (d 4) q M) (hg : ∀ e, e ≤ 24 → M.1 73 e = nI (g e)) (k : ∀ M', r_fx [(67, 2), (67, 3), (70, 0)] [72, 73] M M' → X_jt (d 4) (if r_dif (sNd d (d (523 + 5 * j))) q.1 = 0 then (r_dif q.1 (d (65 + (d (523 + 5 * j)))), q.2) else jL q j (sNd d (d (523 + 5 * j)))) M' → (∀ e, e ≤ 24 → M'.1 73 e = nI (if r_dif (sNd d (d (523 + 5 * j))) q.1 = 0 ∧ jE d j = e then g e ||| 2 ^ d (29 + (d (523 + 5 * j))) else g e)) → Q none GX M') : Ca 2 mt_X1_begin 0 0 [.ref 67, .ref t, .int (nI j)] GX M Q := by
  refine Ca_of rfl (Nat.le_of_ble_eq_true rfl) ?_
  have hb := wf.1
  have ht : isTown t := hu.1.2.2.2
  have hpl : isPlan pl := hu.2.2.2.1
  have hT : t = 3 ∨ t = 83 ∨ t = 111 ∨ t = 139 ∨ t = 167 := ht
  have hP : pl = 26 ∨ pl = 35 ∨ pl = 106 ∨ pl = 134 ∨ pl = 162 ∨ pl = 190 := hpl
  have hw0 := (wj j hj).2.1 hk0
  have hw3 := wf.2.2.2.2.1 _ hw0.2.1
  have h64 : 2 ^ d 2 ≤ 2 ^ 6 := Nat.pow_le_pow_right (by decide) hb.2.2.1
  have e64 : 2 ^ 6 = 64 := by decide
  have hsn := sNd_lt wf hw0.2.1
  have hp := pw_le hb.1
  refine Ru_aload_n (pc := 0) dX1_begin_0 rfl rfl ?_
  refine Ru_getR (pc := 1) pl dX1_begin_1 fl_X1_49 (shTown_0 ht) rfl ((rfX_mut (shTown_0 ht) rfl).trans hu.2.2.1) ?_
  refine Ru_getR (pc := 4) (pl + 3) dX1_begin_4 fl_X1_119 (shPlan_0 hpl) rfl (rfX_of (o := pl) (j := 3) (shPlan_0 hpl) rfl) ?_
  refine Ru_iload_n (pc := 7) dX1_begin_7 rfl rfl ?_
  refine Ru_iald (pc := 8) dX1_begin_8 (shPlan_3 hpl) (by omega) ?_
  refine Ru_top (hpj j (by omega)).2.2.1 ?_
  refine Ru_istore_n (pc := 9) dX1_begin_9 rfl rfl (by decide) ?_
  refine Ru_aload_n (pc := 10) dX1_begin_10 rfl rfl ?_
  refine Ru_getR (pc := 11) pl dX1_begin_11 fl_X1_49 (shTown_0 ht) rfl ((rfX_mut (shTown_0 ht) rfl).trans hu.2.2.1) ?_
  refine Ru_getR (pc := 14) (pl + 2) dX1_begin_14 fl_X1_140 (shPlan_0 hpl) rfl (rfX_of (o := pl) (j := 2) (shPlan_0 hpl) rfl) ?_
  refine Ru_iload_n (pc := 17) dX1_begin_17 rfl rfl ?_
  refine Ru_iald (pc := 18) dX1_begin_18 (shPlan_2 hpl) (by omega) ?_
  refine Ru_top ((hpj j (by omega)).2.1 (by assumption)) ?_
  refine Ru_aload_n (pc := 19) dX1_begin_19 rfl rfl ?_
  refine Ru_getR (pc := 20) (t + 6) dX1_begin_20 fl_X1_143 (shTown_0 ht) rfl (rfX_of (o := t) (j := 6) (shTown_0 ht) rfl) ?_
  refine Ru_iload_n (pc := 23) dX1_begin_23 rfl rfl ?_
  refine Ru_iald (pc := 24) dX1_begin_24 (shTown_6 ht) (by omega) ?_
  refine Ru_top (hx.2.2.1 (d (523 + 5 * j)) (by omega)).2.1 ?_
  refine Ru_iaddN (pc := 25) dX1_begin_25 ?_
  refine Ru_istore (pc := 26) dX1_begin_26 rfl (by decide) ?_
  refine Ru_aload_n (pc := 28) dX1_begin_28 rfl rfl ?_
  refine Ru_iload_n (pc := 29) dX1_begin_29 rfl rfl ?_
  refine Ru_aload_n (pc := 30) dX1_begin_30 rfl rfl ?_
  refine Ru_iload_n (pc := 31) dX1_begin_31 rfl rfl ?_
  refine Ru_cv1 (pc := 32) dX1_begin_32 mv_X1_168 (shTown_0 ht) (by decide) (Nat.le_of_ble_eq_true rfl) (c_X9_needsS ht hx wf (by omega) ?_) 
  refine Ru_cv2 (pc := 35) dX1_begin_35 mv_X1_171 rfl (by decide) (Nat.le_of_ble_eq_true rfl) (c_X1_areThere hq (by omega) (by omega) (fun M2 gx2 hq2 => ?_)) 
  have hx2 : X_tm t d M2 := (X_tm_dp ht d).kp gx2 rfl hx
  have hu2 : X_cu mk t lw pl d M2 := (X_cu_dp mk t lw pl d).kp gx2 rfl hu
  have hg2 : ∀ e, e ≤ 24 → M2.1 73 e = nI (g e) := fun e he => (gx2 73 e rfl).1.trans (hg e he)
  have hs2 : M2.1 70 0 = nI q.1 := hq2.1.trans (congrArg nI (jL_1 _ _ _))
  refine Ru_if_eqB (pc := 38) 86 dX1_begin_38 (by decide) (fun h1 => ?_) (fun h1 => ?_)
  · replace h1 := of_decide_eq_false h1
    refine Ru_vret (pc := 86) dX1_begin_86 rfl ⟨Nat.le_refl _, Nat.le_refl _⟩ ?_
    have hr : ¬ r_dif (sNd d (d (523 + 5 * j))) q.1 = 0 := by assumption
    rw [if_neg hr] at k
    exact k M2 (gx2.mono rfl) hq2 (fun e he => by rw [if_neg (fun z => hr z.1)]; exact hg2 e he)
  · replace h1 := of_decide_eq_true h1
    refine Ru_iload (pc := 41) dX1_begin_41 rfl ?_
    refine Ru_bipush (pc := 43) (nI 24) dX1_begin_43 rfl ?_
    refine Ru_icmp_gtN (pc := 45) 86 dX1_begin_45 (by decide) (by omega) (fun h2 => ?_) (fun h2 => ?_)
    · exfalso
      have hz := hEj
      unfold jE at hz
      omega
    · refine Ru_aload_n (pc := 48) dX1_begin_48 rfl rfl ?_
      refine Ru_getR (pc := 49) 70 dX1_begin_49 fl_X1_21 rfl rfl (rfX_of (o := 67) (j := 3) rfl rfl) ?_
      refine Ru_dup (pc := 52) dX1_begin_52 rfl ?_
      refine Ru_getI (pc := 53) dX1_begin_53 fl_X1_103 rfl rfl ?_
      refine Ru_top hs2 ?_
      refine Ru_aload_n (pc := 56) dX1_begin_56 rfl rfl ?_
      refine Ru_getR (pc := 57) (t + 8) dX1_begin_57 fl_X1_175 (shTown_0 ht) rfl (rfX_of (o := t) (j := 8) (shTown_0 ht) rfl) ?_
      refine Ru_iload_n (pc := 60) dX1_begin_60 rfl rfl ?_
      refine Ru_iald (pc := 61) dX1_begin_61 (shTown_8 ht) (by omega) ?_
      refine Ru_top (hx2.2.2.1 (d (523 + 5 * j)) (by omega)).2.2.2.1 ?_
      refine Ru_iconst (pc := 62) (-1) dX1_begin_62 rfl ?_
      refine Ru_ixor (pc := 63) dX1_begin_63 ?_
      refine Ru_idifN (pc := 64) dX1_begin_64 ?_
      refine Ru_putI (pc := 65) rfl dX1_begin_65 fl_X1_103 rfl ?_
      refine Ru_aload_n (pc := 68) dX1_begin_68 rfl rfl ?_
      refine Ru_getR (pc := 69) 73 dX1_begin_69 fl_X1_32 rfl rfl (rfX_of (o := 67) (j := 6) rfl rfl) ?_
      refine Ru_iload (pc := 72) dX1_begin_72 rfl ?_
      refine Ru_dup2 (pc := 74) dX1_begin_74 rfl rfl ?_
      refine Ru_iald (pc := 75) dX1_begin_75 rfl (by have hz := hEj; unfold jE at hz; omega) ?_
      refine Ru_top ((r_sI_n (by omega)).trans (hg2 ((d (522 + 5 * j)) + (d (41 + (d (523 + 5 * j))))) (by have hz := hEj; unfold jE at hz; omega))) ?_
      refine Ru_iconst (pc := 76) (nI 1) dX1_begin_76 rfl ?_
      refine Ru_aload_n (pc := 77) dX1_begin_77 rfl rfl ?_
      refine Ru_getR (pc := 78) (t + 5) dX1_begin_78 fl_X1_178 (shTown_0 ht) rfl (rfX_of (o := t) (j := 5) (shTown_0 ht) rfl) ?_
      refine Ru_iload_n (pc := 81) dX1_begin_81 rfl rfl ?_
      refine Ru_iald (pc := 82) dX1_begin_82 (shTown_5 ht) (by omega) ?_
      refine Ru_top ((r_sI_n (by omega)).trans (hx2.2.2.1 (d (523 + 5 * j)) (by omega)).1) ?_
      refine Ru_ishl1N (pc := 83) dX1_begin_83 (by omega) ?_
      refine Ru_iorN (pc := 84) dX1_begin_84 ?_
      refine Ru_iast (pc := 85) rfl dX1_begin_85 rfl (by have hz := hEj; unfold jE at hz; omega) ?_
      refine Ru_vret (pc := 86) dX1_begin_86 rfl ⟨Nat.le_refl _, Nat.le_refl _⟩ ?_
      have hr : r_dif (sNd d (d (523 + 5 * j))) q.1 = 0 := by assumption
      rw [jL_no hr] at hq2
      rw [if_pos hr] at k
      refine k _ ((r_fx.sI rfl (r_fx.sI rfl (gx2.mono rfl)))) ⟨((r_sI_n (by omega)).trans r_sI_s), fun i hi => ((r_sI_n (by omega)).trans ((r_sI_n (by omega)).trans (hq2.2.1 i hi))), ⟨((r_sI_n (by omega)).trans ((r_sI_n (by decide)).trans hq2.2.2.1.1)), hq2.2.2.1.2⟩, fun z => ((r_sI_n (by omega)).trans ((r_sI_n (by decide)).trans (hq2.2.2.2 z)))⟩ (fun e he => ?_)
      rw [r_sI_g]
      by_cases e2 : jE d j = e
      · rw [if_pos ⟨rfl, e2.symm⟩, if_pos ⟨hr, e2⟩, ← e2]
        rfl
      · rw [if_neg (fun z => e2 z.2.symm), r_sI_n (by omega), if_neg (fun z => e2 z.2)]
        exact hg2 e he

theorem l_X1_live_d {Q : Rq} {M0 : Mem} {mk t lw pl : Nat} {d : Td} (hu0 : X_cu mk t lw pl d M0) (hx0 : X_tm t d M0) (wf : Wf d) (wj : Wj d) (hpj0 : X_pj pl d M0) {tm y ill : Nat} {q0 : Jt} (htm : tm ≤ 24) (hLE : ∀ i, i < d 4 → q0.2.1 i = false → d (521 + 5 * i) = 0 → jE d i ≤ 24) (k : ∀ M, X_jt (d 4) (jBn d tm q0 (d 4)) M → (∀ e, e ≤ 24 → M.1 73 e = nI (jG d (jPg d (jBn d tm q0 (d 4)).2.1 tm (d 4)) e (d 4))) → r_fx [(67, 2), (67, 3), (70, 0)] [72, 73] M0 M → Ru 4 mt_X1_live r_z 193 [(0, some (.ref 67)), (1, some (.ref t)), (2, some (.ref 46)), (3, some (.int (nI y))), (4, some (.int (nI ill))), (5, some (.ref pl)), (6, some (.int (nI tm)))] [] GX M Q) : ∀ (zw : Nat) (n : Nat) (M : Mem), d 4 - n = zw → (n ≤ d 4) → (X_jt (d 4) (jBn d tm q0 n) M) → (∀ e, e ≤ 24 → M.1 73 e = nI (jG d (jPg d (jBn d tm q0 n).2.1 tm n) e (d 4))) → (r_fx [(67, 2), (67, 3), (70, 0)] [72, 73] M0 M) → Ru 4 mt_X1_live r_z 136 [(0, some (.ref 67)), (1, some (.ref t)), (2, some (.ref 46)), (3, some (.int (nI y))), (4, some (.int (nI ill))), (5, some (.ref pl)), (6, some (.int (nI tm))), (7, some (.int (nI n)))] [] GX M Q := by
  intro zw
  induction zw using Nat.strongRecOn with
  | ind zw ih =>
    intro n M hw hn hq hg fx
    subst hw
    have hb := wf.1
    have ht : isTown t := hu0.1.2.2.2
    have hpl : isPlan pl := hu0.2.2.2.1
    have hT : t = 3 ∨ t = 83 ∨ t = 111 ∨ t = 139 ∨ t = 167 := ht
    have hP : pl = 26 ∨ pl = 35 ∨ pl = 106 ∨ pl = 134 ∨ pl = 162 ∨ pl = 190 := hpl
    have hu : X_cu mk t lw pl d M := (X_cu_dp mk t lw pl d).kp fx rfl hu0
    have hx : X_tm t d M := (X_tm_dp ht d).kp fx rfl hx0
    have hpj : X_pj pl d M := (X_pj_dp hpl d).kp fx rfl hpj0
    have hLE2 : n < d 4 → (jBn d tm q0 n).2.1 n = false → d (521 + 5 * n) = 0 → jE d n ≤ 24 := fun q1 z1 z2 => hLE n q1 (by rw [← z1]; exact (jBn_ne n (Nat.le_refl _)).symm) z2
    refine Ru_iload (pc := 136) dX1_live_136 rfl ?_
    refine Ru_aload (pc := 138) dX1_live_138 rfl ?_
    refine Ru_getI (pc := 140) dX1_live_140 fl_X1_55 (shPlan_0 hpl) rfl ?_
    refine Ru_top hu.2.2.2.2.2 ?_
    refine Ru_icmp_geN (pc := 143) 193 dX1_live_143 (by decide) (by omega) (fun h1 => ?_) (fun h1 => ?_)
    · have en : n = d 4 := by omega
      subst en
      exact Ru_weak (k M hq hg fx) rfl
    · refine Ru_aload (pc := 146) dX1_live_146 rfl ?_
      refine Ru_getR (pc := 148) (pl + 1) dX1_live_148 fl_X1_109 (shPlan_0 hpl) rfl (rfX_of (o := pl) (j := 1) (shPlan_0 hpl) rfl) ?_
      refine Ru_iload (pc := 151) dX1_live_151 rfl ?_
      refine Ru_iald (pc := 153) dX1_live_153 (shPlan_1 hpl) (by omega) ?_
      refine Ru_top (hpj n (by omega)).1 ?_
      refine Ru_if_neN (pc := 154) 187 dX1_live_154 (by decide) (by have := (wj n (by omega)).1; omega) (fun h2 => ?_) (fun h2 => ?_)
      · refine Ru_iincN (pc := 187) 1 dX1_live_187 rfl rfl rfl (by decide) ?_
        refine Ru_goto (pc := 190) 136 dX1_live_190 (by decide) ?_
        have e0 : ¬ (d (521 + 5 * n) = 0 ∧ d (522 + 5 * n) = tm ∧ (jBn d tm q0 n).2.1 n = false) := by
          rintro ⟨z1, z2, z3⟩
          simp_all
        have e1 : jBn d tm q0 (n + 1) = jBn d tm q0 n := by
          show jB1 d tm (jBn d tm q0 n) n = _
          unfold jB1
          exact if_neg e0
        refine Ru_weak (ih (d 4 - (n + 1)) (by omega) (n + 1) M rfl (by omega) (by rw [e1]; exact hq) (fun e he => ?_) fx) rfl
        show _ = nI (jG d (jPg d (jB1 d tm (jBn d tm q0 n) n).2.1 tm (n + 1)) e (d 4))
        rw [jPg_s (by omega) (hLE2 (by omega)), if_neg (fun y => e0 ⟨y.1, y.2.1, y.2.2.1⟩)]
        exact hg e he
      · have hk0n : d (521 + 5 * n) = 0 := h2
        have hw0 := (wj n (by omega)).2.1 hk0n
        refine Ru_aload (pc := 157) dX1_live_157 rfl ?_
        refine Ru_getR (pc := 159) (pl + 2) dX1_live_159 fl_X1_140 (shPlan_0 hpl) rfl (rfX_of (o := pl) (j := 2) (shPlan_0 hpl) rfl) ?_
        refine Ru_iload (pc := 162) dX1_live_162 rfl ?_
        refine Ru_iald (pc := 164) dX1_live_164 (shPlan_2 hpl) (by omega) ?_
        refine Ru_top ((hpj n (by omega)).2.1 (by assumption)) ?_
        refine Ru_iload (pc := 165) dX1_live_165 rfl ?_
        refine Ru_icmp_neN (pc := 167) 187 dX1_live_167 (by decide) (by omega) (fun h3 => ?_) (fun h3 => ?_)
        · refine Ru_iincN (pc := 187) 1 dX1_live_187 rfl rfl rfl (by decide) ?_
          refine Ru_goto (pc := 190) 136 dX1_live_190 (by decide) ?_
          have e0 : ¬ (d (521 + 5 * n) = 0 ∧ d (522 + 5 * n) = tm ∧ (jBn d tm q0 n).2.1 n = false) := by
            rintro ⟨z1, z2, z3⟩
            simp_all
          have e1 : jBn d tm q0 (n + 1) = jBn d tm q0 n := by
            show jB1 d tm (jBn d tm q0 n) n = _
            unfold jB1
            exact if_neg e0
          refine Ru_weak (ih (d 4 - (n + 1)) (by omega) (n + 1) M rfl (by omega) (by rw [e1]; exact hq) (fun e he => ?_) fx) rfl
          show _ = nI (jG d (jPg d (jB1 d tm (jBn d tm q0 n) n).2.1 tm (n + 1)) e (d 4))
          rw [jPg_s (by omega) (hLE2 (by omega)), if_neg (fun y => e0 ⟨y.1, y.2.1, y.2.2.1⟩)]
          exact hg e he
        · refine Ru_aload_n (pc := 170) dX1_live_170 rfl rfl ?_
          refine Ru_getR (pc := 171) 72 dX1_live_171 fl_X1_28 rfl rfl (rfX_of (o := 67) (j := 5) rfl rfl) ?_
          refine Ru_iload (pc := 174) dX1_live_174 rfl ?_
          refine Ru_zald (pc := 176) dX1_live_176 rfl (by omega) ?_
          refine Ru_top (hq.2.1 n (by omega)) ?_
          refine Ru_if_neB (pc := 177) 187 dX1_live_177 (by decide) (fun h4 => ?_) (fun h4 => ?_)
          · refine Ru_iincN (pc := 187) 1 dX1_live_187 rfl rfl rfl (by decide) ?_
            refine Ru_goto (pc := 190) 136 dX1_live_190 (by decide) ?_
            have e0 : ¬ (d (521 + 5 * n) = 0 ∧ d (522 + 5 * n) = tm ∧ (jBn d tm q0 n).2.1 n = false) := by
              rintro ⟨z1, z2, z3⟩
              simp_all
            have e1 : jBn d tm q0 (n + 1) = jBn d tm q0 n := by
              show jB1 d tm (jBn d tm q0 n) n = _
              unfold jB1
              exact if_neg e0
            refine Ru_weak (ih (d 4 - (n + 1)) (by omega) (n + 1) M rfl (by omega) (by rw [e1]; exact hq) (fun e he => ?_) fx) rfl
            show _ = nI (jG d (jPg d (jB1 d tm (jBn d tm q0 n) n).2.1 tm (n + 1)) e (d 4))
            rw [jPg_s (by omega) (hLE2 (by omega)), if_neg (fun y => e0 ⟨y.1, y.2.1, y.2.2.1⟩)]
            exact hg e he
          · have hlf : (jBn d tm q0 n).2.1 n = false := by assumption
            refine Ru_aload_n (pc := 180) dX1_live_180 rfl rfl ?_
            refine Ru_aload_n (pc := 181) dX1_live_181 rfl rfl ?_
            refine Ru_iload (pc := 182) dX1_live_182 rfl ?_
            refine Ru_cv2 (pc := 184) dX1_live_184 mv_X1_161 rfl (by decide) (Nat.le_of_ble_eq_true rfl) (c_X1_begin (j := n) hu hx wf wj hpj (by omega) (by assumption) (hLE2 (by omega) (by assumption) (by assumption)) hq hg (fun M2 gx2 hq2 hg2 => ?_)) 
            refine Ru_iincN (pc := 187) 1 dX1_live_187 rfl rfl rfl (by decide) ?_
            refine Ru_goto (pc := 190) 136 dX1_live_190 (by decide) ?_
            have hst : d (522 + 5 * n) = tm := by assumption
            have hk0 : d (521 + 5 * n) = 0 := by assumption
            have hL : (jBn d tm q0 n).2.1 n = false := by assumption
            have e1 : jBn d tm q0 (n + 1) = (if r_dif (sNd d (d (523 + 5 * n))) (jBn d tm q0 n).1 = 0 then (r_dif (jBn d tm q0 n).1 (d (65 + (d (523 + 5 * n)))), (jBn d tm q0 n).2) else jL (jBn d tm q0 n) n (sNd d (d (523 + 5 * n)))) := by
              show jB1 d tm (jBn d tm q0 n) n = _
              unfold jB1
              exact if_pos ⟨hk0, hst, hL⟩
            refine Ru_weak (ih (d 4 - (n + 1)) (by omega) (n + 1) M2 rfl (by omega) (by rw [e1]; exact hq2) (fun e he => ?_) (fx.tr gx2)) rfl
            show _ = nI (jG d (jPg d (jB1 d tm (jBn d tm q0 n) n).2.1 tm (n + 1)) e (d 4))
            rw [jPg_s (by omega) (hLE2 (by omega)), hg2 e he]
            by_cases z : r_dif (sNd d (d (523 + 5 * n))) (jBn d tm q0 n).1 = 0 ∧ jE d n = e
            · rw [if_pos z, if_pos ⟨hk0, hst, hL, z.1, z.2⟩]
            · rw [if_neg z, if_neg (fun y => z y.2.2.2)]
