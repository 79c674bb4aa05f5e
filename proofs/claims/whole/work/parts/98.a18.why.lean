-- DEEDS OF THE DEVELOPERS' OWN: what can't be
theorem X_pj_dp {pl : Nat} (h : isPlan pl) (d : Td) : r_dp [] plA (X_pj pl d) := by
  intro M M' q p j hj
  have g : ∀ i, i < 5 → ∀ k, M'.1 (pl + i) k = M.1 (pl + i) k := fun i hi k => (q (pl + i) k (r_in_A (pl_mem h i hi))).1
  obtain ⟨a, b, c, e⟩ := p j hj
  exact ⟨(g 1 (by decide) _).trans a, fun z => (g 2 (by decide) _).trans (b z), (g 3 (by decide) _).trans c, (g 4 (by decide) _).trans e⟩

theorem l_X1_wnm2 {Q : Rq} {M : Mem} {mk t lw pl j : Nat} {d : Td} (hu : X_cu mk t lw pl d M) (hx : X_tm t d M) (wf : Wf d) (wj : Wj d) (hpj : X_pj pl d M) (hj : j < d 4) (hk0 : d (521 + 5 * j) = 0) (hpop : pop8 (d (524 + 5 * j)) = d (53 + d (523 + 5 * j))) (hA : anB (jAp d j) (d 2) = false) (k : Q (some (.int (nI (jM d j)))) GX M) : ∀ (zw : Nat) (n : Nat), j - n = zw → (n ≤ j) → (∀ i, i < n → jBi d j i = false) → Ru 1 mt_X1_whyNotMade r_z 94 [(0, some (.ref t)), (1, some (.int (nI j))), (2, some (.ref pl)), (3, some (.int (nI (d (523 + 5 * j))))), (4, some (.int (nI (spn (d (522 + 5 * j)) (d (41 + d (523 + 5 * j))))))), (5, some (.int (nI n)))] [] GX M Q := by
  intro zw
  induction zw using Nat.strongRecOn with
  | ind zw ih =>
    intro n hw hn hbs
    subst hw
    have hb := wf.1
    have ht : isTown t := hu.1.2.2.2
    have hpl : isPlan pl := hu.2.2.2.1
    have hT : t = 3 ∨ t = 83 ∨ t = 111 ∨ t = 139 ∨ t = 167 := ht
    have hP : pl = 26 ∨ pl = 35 ∨ pl = 106 ∨ pl = 134 ∨ pl = 162 ∨ pl = 190 := hpl
    have hw0 := (wj j hj).2.1 hk0
    have hw3 := wf.2.2.2.2.1 _ hw0.2.1
    have h64 : 2 ^ d 2 ≤ 2 ^ 6 := Nat.pow_le_pow_right (by decide) hb.2.2.1
    have e64 : 2 ^ 6 = 64 := by decide
    refine Ru_iload (pc := 94) dX1_whyNotMade_94 rfl ?_
    refine Ru_iload_n (pc := 96) dX1_whyNotMade_96 rfl rfl ?_
    refine Ru_icmp_geN (pc := 97) 159 dX1_whyNotMade_97 (by decide) (by omega) (fun h1 => ?_) (fun h1 => ?_)
    · have hB : anB (jBi d j) j = false := anB_f (fun i hi => hbs i (by omega))
      refine Ru_aload_n (pc := 159) dX1_whyNotMade_159 rfl rfl ?_
      refine Ru_getR (pc := 160) (pl + 2) dX1_whyNotMade_160 fl_X1_140 (shPlan_0 hpl) rfl (rfX_of (o := pl) (j := 2) (shPlan_0 hpl) rfl) ?_
      refine Ru_iload_n (pc := 163) dX1_whyNotMade_163 rfl rfl ?_
      refine Ru_iald (pc := 164) dX1_whyNotMade_164 (shPlan_2 hpl) (by omega) ?_
      refine Ru_top ((hpj j (by omega)).2.1 (by assumption)) ?_
      refine Ru_aload_n (pc := 165) dX1_whyNotMade_165 rfl rfl ?_
      refine Ru_getR (pc := 166) (t + 6) dX1_whyNotMade_166 fl_X1_143 (shTown_0 ht) rfl (rfX_of (o := t) (j := 6) (shTown_0 ht) rfl) ?_
      refine Ru_iload_n (pc := 169) dX1_whyNotMade_169 rfl rfl ?_
      refine Ru_iald (pc := 170) dX1_whyNotMade_170 (shTown_6 ht) (by omega) ?_
      refine Ru_top (hx.2.2.1 (d (523 + 5 * j)) (by omega)).2.1 ?_
      refine Ru_iaddN (pc := 171) dX1_whyNotMade_171 ?_
      refine Ru_bipush (pc := 172) (nI 24) dX1_whyNotMade_172 rfl ?_
      refine Ru_icmp_leN (pc := 174) 181 dX1_whyNotMade_174 (by decide) (by omega) (fun h2 => ?_) (fun h2 => ?_)
      · refine Ru_iconst (pc := 181) (nI 0) dX1_whyNotMade_181 rfl ?_
        refine Ru_iret (pc := 182) dX1_whyNotMade_182 rfl ⟨Nat.le_refl _, Nat.le_refl _⟩ ?_
        have e : jM d j = 0 := by
          unfold jM
          rw [if_neg (fun z => z hpop), if_neg (by rw [hA]; decide), if_neg (by rw [hB]; decide), if_neg (by unfold jE; omega)]
        rw [e] at k
        exact k
      · refine Ru_iconst (pc := 177) (nI 4) dX1_whyNotMade_177 rfl ?_
        refine Ru_goto (pc := 178) 182 dX1_whyNotMade_178 (by decide) ?_
        refine Ru_iret (pc := 182) dX1_whyNotMade_182 rfl ⟨Nat.le_refl _, Nat.le_refl _⟩ ?_
        have e : jM d j = 4 := by
          unfold jM
          rw [if_neg (fun z => z hpop), if_neg (by rw [hA]; decide), if_neg (by rw [hB]; decide), if_pos (by unfold jE; omega)]
        rw [e] at k
        exact k
    · refine Ru_aload_n (pc := 100) dX1_whyNotMade_100 rfl rfl ?_
      refine Ru_getR (pc := 101) (pl + 1) dX1_whyNotMade_101 fl_X1_109 (shPlan_0 hpl) rfl (rfX_of (o := pl) (j := 1) (shPlan_0 hpl) rfl) ?_
      refine Ru_iload (pc := 104) dX1_whyNotMade_104 rfl ?_
      refine Ru_iald (pc := 106) dX1_whyNotMade_106 (shPlan_1 hpl) (by omega) ?_
      refine Ru_top (hpj n (by omega)).1 ?_
      refine Ru_if_neN (pc := 107) 114 dX1_whyNotMade_107 (by decide) (by have := (wj n (by omega)).1; omega) (fun h3 => ?_) (fun h3 => ?_)
      · have hbi : jBi d j n = false := jBi_k h3
        refine Ru_iconst (pc := 114) (nI 0) dX1_whyNotMade_114 rfl ?_
        refine Ru_istore (pc := 115) dX1_whyNotMade_115 rfl (by decide) ?_
        refine Ru_iload (pc := 117) dX1_whyNotMade_117 rfl ?_
        refine Ru_if_eqN (pc := 119) 153 dX1_whyNotMade_119 (by decide) (by omega) (fun h4 => ?_) (fun h4 => ?_)
        · refine Ru_iincN (pc := 153) 1 dX1_whyNotMade_153 rfl rfl rfl (by decide) ?_
          refine Ru_goto (pc := 156) 94 dX1_whyNotMade_156 (by decide) ?_
          refine Ru_weak (ih (j - (n + 1)) (by omega) (n + 1) rfl (by omega) (fun i hi => ?_)) rfl
          by_cases e : i = n
          · subst e
            exact hbi
          · exact hbs i (by omega)
        · exfalso
          omega
      · have hkn : d (521 + 5 * n) = 0 := h3
        have hwn := (wj n (by omega)).2.1 hkn
        refine Ru_iconst (pc := 110) (nI 1) dX1_whyNotMade_110 rfl ?_
        refine Ru_goto (pc := 111) 115 dX1_whyNotMade_111 (by decide) ?_
        refine Ru_istore (pc := 115) dX1_whyNotMade_115 rfl (by decide) ?_
        refine Ru_iload (pc := 117) dX1_whyNotMade_117 rfl ?_
        refine Ru_if_eqN (pc := 119) 153 dX1_whyNotMade_119 (by decide) (by omega) (fun h5 => ?_) (fun h5 => ?_)
        · exfalso
          omega
        · refine Ru_aload_n (pc := 122) dX1_whyNotMade_122 rfl rfl ?_
          refine Ru_getR (pc := 123) (pl + 4) dX1_whyNotMade_123 fl_X1_122 (shPlan_0 hpl) rfl (rfX_of (o := pl) (j := 4) (shPlan_0 hpl) rfl) ?_
          refine Ru_iload (pc := 126) dX1_whyNotMade_126 rfl ?_
          refine Ru_iald (pc := 128) dX1_whyNotMade_128 (shPlan_4 hpl) (by omega) ?_
          refine Ru_top (hpj n (by omega)).2.2.2 ?_
          refine Ru_aload_n (pc := 129) dX1_whyNotMade_129 rfl rfl ?_
          refine Ru_getR (pc := 130) (pl + 4) dX1_whyNotMade_130 fl_X1_122 (shPlan_0 hpl) rfl (rfX_of (o := pl) (j := 4) (shPlan_0 hpl) rfl) ?_
          refine Ru_iload_n (pc := 133) dX1_whyNotMade_133 rfl rfl ?_
          refine Ru_iald (pc := 134) dX1_whyNotMade_134 (shPlan_4 hpl) (by omega) ?_
          refine Ru_top (hpj j (by omega)).2.2.2 ?_
          refine Ru_iandN (pc := 135) dX1_whyNotMade_135 ?_
          refine Ru_if_eqN (pc := 136) 153 dX1_whyNotMade_136 (by decide) (Nat.lt_of_le_of_lt Nat.and_le_left (by omega)) (fun h6 => ?_) (fun h6 => ?_)
          · have hbi : jBi d j n = false := by
              unfold jBi
              rw [decide_eq_false (show ¬ ¬ d (524 + 5 * n) &&& d (524 + 5 * j) = 0 from fun z => z h6), Bool.false_and, Bool.and_false]
            refine Ru_iincN (pc := 153) 1 dX1_whyNotMade_153 rfl rfl rfl (by decide) ?_
            refine Ru_goto (pc := 156) 94 dX1_whyNotMade_156 (by decide) ?_
            refine Ru_weak (ih (j - (n + 1)) (by omega) (n + 1) rfl (by omega) (fun i hi => ?_)) rfl
            by_cases e : i = n
            · subst e
              exact hbi
            · exact hbs i (by omega)
          · have hwh := h6
            refine Ru_aload_n (pc := 139) dX1_whyNotMade_139 rfl rfl ?_
            refine Ru_iload (pc := 140) dX1_whyNotMade_140 rfl ?_
            refine Ru_cs2 (pc := 142) dX1_whyNotMade_142 ms_X1_134 (by decide) (Nat.le_of_ble_eq_true rfl) (c_X1_span hu hx wf wj hpj (j := n) (by omega) (by assumption) ?_) 
            refine Ru_iload (pc := 145) dX1_whyNotMade_145 rfl ?_
            refine Ru_iandN (pc := 147) dX1_whyNotMade_147 ?_
            refine Ru_if_eqN (pc := 148) 153 dX1_whyNotMade_148 (by decide) (Nat.lt_of_le_of_lt Nat.and_le_left (Nat.lt_trans (spn_lt _ _) (by decide))) (fun h7 => ?_) (fun h7 => ?_)
            · have hbi : jBi d j n = false := by
                unfold jBi
                rw [decide_eq_false (show ¬ ¬ spn (d (522 + 5 * n)) (d (41 + d (523 + 5 * n))) &&& spn (d (522 + 5 * j)) (d (41 + d (523 + 5 * j))) = 0 from fun z => z h7), Bool.and_false, Bool.and_false]
              refine Ru_iincN (pc := 153) 1 dX1_whyNotMade_153 rfl rfl rfl (by decide) ?_
              refine Ru_goto (pc := 156) 94 dX1_whyNotMade_156 (by decide) ?_
              refine Ru_weak (ih (j - (n + 1)) (by omega) (n + 1) rfl (by omega) (fun i hi => ?_)) rfl
              by_cases e : i = n
              · subst e
                exact hbi
              · exact hbs i (by omega)
            · have hbi : jBi d j n = true := by
                unfold jBi
                rw [decide_eq_true hkn, Bool.true_and, decide_eq_true hwh, Bool.true_and]
                exact decide_eq_true h7
              refine Ru_iconst (pc := 151) (nI 3) dX1_whyNotMade_151 rfl ?_
              refine Ru_iret (pc := 152) dX1_whyNotMade_152 rfl ⟨Nat.le_refl _, Nat.le_refl _⟩ ?_
              have e : jM d j = 3 := by
                unfold jM
                rw [if_neg (fun z => z hpop), if_neg (by rw [hA]; decide), if_pos (anB_t hbi (by omega))]
              rw [e] at k
              exact k

theorem l_X1_wnm1 {Q : Rq} {M : Mem} {mk t lw pl j : Nat} {d : Td} (hu : X_cu mk t lw pl d M) (hx : X_tm t d M) (wf : Wf d) (wj : Wj d) (hpj : X_pj pl d M) (hj : j < d 4) (hk0 : d (521 + 5 * j) = 0) (hpop : pop8 (d (524 + 5 * j)) = d (53 + d (523 + 5 * j))) (k : Q (some (.int (nI (jM d j)))) GX M) : ∀ (zw : Nat) (p : Nat), d 2 - p = zw → (p ≤ d 2) → (∀ i, i < p → jAp d j i = false) → Ru 1 mt_X1_whyNotMade r_z 42 [(0, some (.ref t)), (1, some (.int (nI j))), (2, some (.ref pl)), (3, some (.int (nI (d (523 + 5 * j))))), (4, some (.int (nI (spn (d (522 + 5 * j)) (d (41 + d (523 + 5 * j))))))), (5, some (.int (nI p)))] [] GX M Q := by
  intro zw
  induction zw using Nat.strongRecOn with
  | ind zw ih =>
    intro p hw hn hps
    subst hw
    have hb := wf.1
    have ht : isTown t := hu.1.2.2.2
    have hpl : isPlan pl := hu.2.2.2.1
    have hT : t = 3 ∨ t = 83 ∨ t = 111 ∨ t = 139 ∨ t = 167 := ht
    have hP : pl = 26 ∨ pl = 35 ∨ pl = 106 ∨ pl = 134 ∨ pl = 162 ∨ pl = 190 := hpl
    have hw0 := (wj j hj).2.1 hk0
    have hw3 := wf.2.2.2.2.1 _ hw0.2.1
    have h64 : 2 ^ d 2 ≤ 2 ^ 6 := Nat.pow_le_pow_right (by decide) hb.2.2.1
    have e64 : 2 ^ 6 = 64 := by decide
    refine Ru_iload (pc := 42) dX1_whyNotMade_42 rfl ?_
    refine Ru_aload_n (pc := 44) dX1_whyNotMade_44 rfl rfl ?_
    refine Ru_getR (pc := 45) (t + 10) dX1_whyNotMade_45 fl_X1_84 (shTown_0 ht) rfl (rfX_of (o := t) (j := 10) (shTown_0 ht) rfl) ?_
    refine Ru_getI (pc := 48) dX1_whyNotMade_48 fl_X1_88 (shNames_0 (isNames_t ht).2.2) rfl ?_
    refine Ru_top hx.1.2.2.1 ?_
    refine Ru_icmp_geN (pc := 51) 91 dX1_whyNotMade_51 (by decide) (by omega) (fun h1 => ?_) (fun h1 => ?_)
    · refine Ru_iconst (pc := 91) (nI 0) dX1_whyNotMade_91 rfl ?_
      refine Ru_istore (pc := 92) dX1_whyNotMade_92 rfl (by decide) ?_
      refine Ru_weak (l_X1_wnm2 hu hx wf wj hpj hj hk0 hpop (anB_f (fun i hi => hps i (by omega))) k j 0 rfl (Nat.zero_le _) (fun i hi => by omega)) rfl
    · refine Ru_aload_n (pc := 54) dX1_whyNotMade_54 rfl rfl ?_
      refine Ru_getR (pc := 55) (pl + 4) dX1_whyNotMade_55 fl_X1_122 (shPlan_0 hpl) rfl (rfX_of (o := pl) (j := 4) (shPlan_0 hpl) rfl) ?_
      refine Ru_iload_n (pc := 58) dX1_whyNotMade_58 rfl rfl ?_
      refine Ru_iald (pc := 59) dX1_whyNotMade_59 (shPlan_4 hpl) (by omega) ?_
      refine Ru_top (hpj j (by omega)).2.2.2 ?_
      refine Ru_iload (pc := 60) dX1_whyNotMade_60 rfl ?_
      refine Ru_ishrN (pc := 62) dX1_whyNotMade_62 (by omega) ?_
      refine Ru_iconst (pc := 63) (nI 1) dX1_whyNotMade_63 rfl ?_
      refine Ru_iandN (pc := 64) dX1_whyNotMade_64 ?_
      refine Ru_if_eqN (pc := 65) 85 dX1_whyNotMade_65 (by decide) (Nat.lt_of_le_of_lt Nat.and_le_right (by decide)) (fun h2 => ?_) (fun h2 => ?_)
      · have h2b := r_b1_f h2
        have hap : jAp d j p = false := by
          unfold jAp
          rw [h2b]
          rfl
        refine Ru_iincN (pc := 85) 1 dX1_whyNotMade_85 rfl rfl rfl (by decide) ?_
        refine Ru_goto (pc := 88) 42 dX1_whyNotMade_88 (by decide) ?_
        refine Ru_weak (ih (d 2 - (p + 1)) (by omega) (p + 1) rfl (by omega) (fun i hi => ?_)) rfl
        by_cases e : i = p
        · subst e
          exact hap
        · exact hps i (by omega)
      · have h2b := r_b1_t h2
        have hbt := h2b
        refine Ru_iload (pc := 68) dX1_whyNotMade_68 rfl ?_
        refine Ru_aload_n (pc := 70) dX1_whyNotMade_70 rfl rfl ?_
        refine Ru_getR (pc := 71) (t + 12) dX1_whyNotMade_71 fl_X1_137 (shTown_0 ht) rfl (rfX_of (o := t) (j := 12) (shTown_0 ht) rfl) ?_
        refine Ru_iload (pc := 74) dX1_whyNotMade_74 rfl ?_
        refine Ru_iald (pc := 76) dX1_whyNotMade_76 (shTown_12 ht) (by omega) ?_
        refine Ru_top (hx.2.2.2.1 p (by omega)).1 ?_
        refine Ru_iconst (pc := 77) (-1) dX1_whyNotMade_77 rfl ?_
        refine Ru_ixor (pc := 78) dX1_whyNotMade_78 ?_
        refine Ru_idifN (pc := 79) dX1_whyNotMade_79 ?_
        refine Ru_if_eqN (pc := 80) 85 dX1_whyNotMade_80 (by decide) (Nat.lt_of_le_of_lt (r_dif_le _ _) (Nat.lt_trans (spn_lt _ _) (by decide))) (fun h3 => ?_) (fun h3 => ?_)
        · have hap : jAp d j p = false := by
            unfold jAp
            rw [decide_eq_false (fun z => z h3), Bool.and_false]
          refine Ru_iincN (pc := 85) 1 dX1_whyNotMade_85 rfl rfl rfl (by decide) ?_
          refine Ru_goto (pc := 88) 42 dX1_whyNotMade_88 (by decide) ?_
          refine Ru_weak (ih (d 2 - (p + 1)) (by omega) (p + 1) rfl (by omega) (fun i hi => ?_)) rfl
          by_cases e : i = p
          · subst e
            exact hap
          · exact hps i (by omega)
        · have hap : jAp d j p = true := by
            unfold jAp
            rw [hbt, Bool.true_and]
            exact decide_eq_true h3
          refine Ru_iconst (pc := 83) (nI 2) dX1_whyNotMade_83 rfl ?_
          refine Ru_iret (pc := 84) dX1_whyNotMade_84 rfl ⟨Nat.le_refl _, Nat.le_refl _⟩ ?_
          have e : jM d j = 2 := by
            unfold jM
            rw [if_neg (fun z => z hpop), if_pos (anB_t hap (by omega))]
          rw [e] at k
          exact k

theorem c_X1_whyNotMade {Q : Rq} {M : Mem} {mk t lw pl j : Nat} {d : Td} (hu : X_cu mk t lw pl d M) (hx : X_tm t d M) (wf : Wf d) (wj : Wj d) (hpj : X_pj pl d M) (hj : j < d 4) (hk0 : d (521 + 5 * j) = 0) (k : Q (some (.int (nI (jM d j)))) GX M) : Ca 1 mt_X1_whyNotMade 0 0 [.ref t, .int (nI j)] GX M Q := by
  refine Ca_of rfl (Nat.le_of_ble_eq_true rfl) ?_
  have hb := wf.1
  have ht : isTown t := hu.1.2.2.2
  have hpl : isPlan pl := hu.2.2.2.1
  have hT : t = 3 ∨ t = 83 ∨ t = 111 ∨ t = 139 ∨ t = 167 := ht
  have hP : pl = 26 ∨ pl = 35 ∨ pl = 106 ∨ pl = 134 ∨ pl = 162 ∨ pl = 190 := hpl
  have hw0 := (wj j hj).2.1 hk0
  have hw3 := wf.2.2.2.2.1 _ hw0.2.1
  have h64 : 2 ^ d 2 ≤ 2 ^ 6 := Nat.pow_le_pow_right (by decide) hb.2.2.1
  have e64 : 2 ^ 6 = 64 := by decide
  refine Ru_aload_n (pc := 0) dX1_whyNotMade_0 rfl rfl ?_
  refine Ru_getR (pc := 1) pl dX1_whyNotMade_1 fl_X1_49 (shTown_0 ht) rfl ((rfX_mut (shTown_0 ht) rfl).trans hu.2.2.1) ?_
  refine Ru_astore_n (pc := 4) dX1_whyNotMade_4 rfl rfl (by decide) ?_
  refine Ru_aload_n (pc := 5) dX1_whyNotMade_5 rfl rfl ?_
  refine Ru_getR (pc := 6) (pl + 3) dX1_whyNotMade_6 fl_X1_119 (shPlan_0 hpl) rfl (rfX_of (o := pl) (j := 3) (shPlan_0 hpl) rfl) ?_
  refine Ru_iload_n (pc := 9) dX1_whyNotMade_9 rfl rfl ?_
  refine Ru_iald (pc := 10) dX1_whyNotMade_10 (shPlan_3 hpl) (by omega) ?_
  refine Ru_top (hpj j (by omega)).2.2.1 ?_
  refine Ru_istore_n (pc := 11) dX1_whyNotMade_11 rfl rfl (by decide) ?_
  refine Ru_aload_n (pc := 12) dX1_whyNotMade_12 rfl rfl ?_
  refine Ru_getR (pc := 13) (pl + 4) dX1_whyNotMade_13 fl_X1_122 (shPlan_0 hpl) rfl (rfX_of (o := pl) (j := 4) (shPlan_0 hpl) rfl) ?_
  refine Ru_iload_n (pc := 16) dX1_whyNotMade_16 rfl rfl ?_
  refine Ru_iald (pc := 17) dX1_whyNotMade_17 (shPlan_4 hpl) (by omega) ?_
  refine Ru_top (hpj j (by omega)).2.2.2 ?_
  refine Ru_cs1 (pc := 18) dX1_whyNotMade_18 ms_X1_125 (by decide) (Nat.le_of_ble_eq_true rfl) (c_bitCount_X (s := (d (524 + 5 * j))) (by omega) ?_) 
  refine Ru_aload_n (pc := 21) dX1_whyNotMade_21 rfl rfl ?_
  refine Ru_getR (pc := 22) (t + 7) dX1_whyNotMade_22 fl_X1_131 (shTown_0 ht) rfl (rfX_of (o := t) (j := 7) (shTown_0 ht) rfl) ?_
  refine Ru_iload_n (pc := 25) dX1_whyNotMade_25 rfl rfl ?_
  refine Ru_iald (pc := 26) dX1_whyNotMade_26 (shTown_7 ht) (by omega) ?_
  refine Ru_top (hx.2.2.1 (d (523 + 5 * j)) (by omega)).2.2.1 ?_
  refine Ru_icmp_eqN (pc := 27) 32 dX1_whyNotMade_27 (by decide) ⟨Nat.lt_of_le_of_lt (pop8_le _) (by decide), by omega⟩ (fun h1 => ?_) (fun h1 => ?_)
  · have hpop := h1
    refine Ru_aload_n (pc := 32) dX1_whyNotMade_32 rfl rfl ?_
    refine Ru_iload_n (pc := 33) dX1_whyNotMade_33 rfl rfl ?_
    refine Ru_cs2 (pc := 34) dX1_whyNotMade_34 ms_X1_134 (by decide) (Nat.le_of_ble_eq_true rfl) (c_X1_span hu hx wf wj hpj (j := j) (by omega) (by assumption) ?_) 
    refine Ru_istore (pc := 37) dX1_whyNotMade_37 rfl (by decide) ?_
    refine Ru_iconst (pc := 39) (nI 0) dX1_whyNotMade_39 rfl ?_
    refine Ru_istore (pc := 40) dX1_whyNotMade_40 rfl (by decide) ?_
    refine Ru_weak (l_X1_wnm1 hu hx wf wj hpj hj hk0 hpop k (d 2) 0 rfl (Nat.zero_le _) (fun i hi => by omega)) rfl
  · refine Ru_iconst (pc := 30) (nI 1) dX1_whyNotMade_30 rfl ?_
    refine Ru_iret (pc := 31) dX1_whyNotMade_31 rfl ⟨Nat.le_refl _, Nat.le_refl _⟩ ?_
    have e : jM d j = 1 := by
      unfold jM
      rw [if_pos (by assumption)]
    rw [e] at k
    exact k

theorem l_X1_judgeJobs {Q : Rq} {M0 : Mem} {mk t lw pl : Nat} {d : Td} (hu0 : X_cu mk t lw pl d M0) (hx0 : X_tm t d M0) (wf : Wf d) (wj : Wj d) (hpj0 : X_pj pl d M0) (k : ∀ M', r_fx [] [71] M0 M' → (∀ j, j < d 4 → M'.1 71 j = nI (jW d j)) → Q none GX M') : ∀ (zw : Nat) (n : Nat) (M : Mem), d 4 - n = zw → (n ≤ d 4) → (∀ i, i < n → M.1 71 i = nI (jW d i)) → (r_fx [] [71] M0 M) → Ru 2 mt_X1_judgeJobs r_z 2 [(0, some (.ref 67)), (1, some (.ref t)), (2, some (.int (nI n)))] [] GX M Q := by
  intro zw
  induction zw using Nat.strongRecOn with
  | ind zw ih =>
    intro n M hw hn hws fx
    subst hw
    have hb := wf.1
    have ht : isTown t := hu0.1.2.2.2
    have hpl : isPlan pl := hu0.2.2.2.1
    have hT : t = 3 ∨ t = 83 ∨ t = 111 ∨ t = 139 ∨ t = 167 := ht
    have hP : pl = 26 ∨ pl = 35 ∨ pl = 106 ∨ pl = 134 ∨ pl = 162 ∨ pl = 190 := hpl
    have hu : X_cu mk t lw pl d M := (X_cu_dp mk t lw pl d).kp fx rfl hu0
    have hx : X_tm t d M := (X_tm_dp ht d).kp fx rfl hx0
    have hpj : X_pj pl d M := (X_pj_dp hpl d).kp fx rfl hpj0
    refine Ru_iload_n (pc := 2) dX1_judgeJobs_2 rfl rfl ?_
    refine Ru_aload_n (pc := 3) dX1_judgeJobs_3 rfl rfl ?_
    refine Ru_getR (pc := 4) pl dX1_judgeJobs_4 fl_X1_49 (shTown_0 ht) rfl ((rfX_mut (shTown_0 ht) rfl).trans hu.2.2.1) ?_
    refine Ru_getI (pc := 7) dX1_judgeJobs_7 fl_X1_55 (shPlan_0 hpl) rfl ?_
    refine Ru_top hu.2.2.2.2.2 ?_
    refine Ru_icmp_geN (pc := 10) 50 dX1_judgeJobs_10 (by decide) (by omega) (fun h1 => ?_) (fun h1 => ?_)
    · refine Ru_vret (pc := 50) dX1_judgeJobs_50 rfl ⟨Nat.le_refl _, Nat.le_refl _⟩ ?_
      exact k M fx (fun j hj => hws j (by omega))
    · refine Ru_aload_n (pc := 13) dX1_judgeJobs_13 rfl rfl ?_
      refine Ru_getR (pc := 14) 71 dX1_judgeJobs_14 fl_X1_25 rfl rfl (rfX_of (o := 67) (j := 4) rfl rfl) ?_
      refine Ru_iload_n (pc := 17) dX1_judgeJobs_17 rfl rfl ?_
      refine Ru_aload_n (pc := 18) dX1_judgeJobs_18 rfl rfl ?_
      refine Ru_getR (pc := 19) pl dX1_judgeJobs_19 fl_X1_49 (shTown_0 ht) rfl ((rfX_mut (shTown_0 ht) rfl).trans hu.2.2.1) ?_
      refine Ru_getR (pc := 22) (pl + 1) dX1_judgeJobs_22 fl_X1_109 (shPlan_0 hpl) rfl (rfX_of (o := pl) (j := 1) (shPlan_0 hpl) rfl) ?_
      refine Ru_iload_n (pc := 25) dX1_judgeJobs_25 rfl rfl ?_
      refine Ru_iald (pc := 26) dX1_judgeJobs_26 (shPlan_1 hpl) (by omega) ?_
      refine Ru_top (hpj n (by omega)).1 ?_
      refine Ru_if_neN (pc := 27) 38 dX1_judgeJobs_27 (by decide) (by have := (wj n (by omega)).1; omega) (fun h2 => ?_) (fun h2 => ?_)
      · refine Ru_aload_n (pc := 38) dX1_judgeJobs_38 rfl rfl ?_
        refine Ru_iload_n (pc := 39) dX1_judgeJobs_39 rfl rfl ?_
        refine Ru_cs2 (pc := 40) dX1_judgeJobs_40 ms_X1_116 (by decide) (Nat.le_of_ble_eq_true rfl) (c_X1_whyNotKept hu hx wf wj hpj (j := n) (by omega) (by assumption) ?_) 
        refine Ru_iast (pc := 43) rfl dX1_judgeJobs_43 rfl (by omega) ?_
        refine Ru_iincN (pc := 44) 1 dX1_judgeJobs_44 rfl rfl rfl (by decide) ?_
        refine Ru_goto (pc := 47) 2 dX1_judgeJobs_47 (by decide) ?_
        refine Ru_weak (ih (d 4 - (n + 1)) (by omega) (n + 1) _ rfl (by omega) (fun i hi => ?_) (r_fx.sI rfl fx)) rfl
        rw [r_sI_g]
        by_cases e : i = n
        · subst e
          rw [if_pos ⟨rfl, rfl⟩]
          unfold jW
          rw [if_neg (by assumption)]
        · rw [if_neg (fun z => e z.2)]
          exact hws i (by omega)
      · refine Ru_aload_n (pc := 30) dX1_judgeJobs_30 rfl rfl ?_
        refine Ru_iload_n (pc := 31) dX1_judgeJobs_31 rfl rfl ?_
        refine Ru_cs2 (pc := 32) dX1_judgeJobs_32 ms_X1_112 (by decide) (Nat.le_of_ble_eq_true rfl) (c_X1_whyNotMade hu hx wf wj hpj (j := n) (by omega) (by assumption) ?_) 
        refine Ru_goto (pc := 35) 43 dX1_judgeJobs_35 (by decide) ?_
        refine Ru_iast (pc := 43) rfl dX1_judgeJobs_43 rfl (by omega) ?_
        refine Ru_iincN (pc := 44) 1 dX1_judgeJobs_44 rfl rfl rfl (by decide) ?_
        refine Ru_goto (pc := 47) 2 dX1_judgeJobs_47 (by decide) ?_
        refine Ru_weak (ih (d 4 - (n + 1)) (by omega) (n + 1) _ rfl (by omega) (fun i hi => ?_) (r_fx.sI rfl fx)) rfl
        rw [r_sI_g]
        by_cases e : i = n
        · subst e
          rw [if_pos ⟨rfl, rfl⟩]
          unfold jW
          rw [if_pos (by assumption)]
        · rw [if_neg (fun z => e z.2)]
          exact hws i (by omega)

theorem c_X1_judgeJobs {Q : Rq} {M : Mem} {mk t lw pl : Nat} {d : Td} (hu : X_cu mk t lw pl d M) (hx : X_tm t d M) (wf : Wf d) (wj : Wj d) (hpj : X_pj pl d M) (k : ∀ M', r_fx [] [71] M M' → (∀ j, j < d 4 → M'.1 71 j = nI (jW d j)) → Q none GX M') : Ca 2 mt_X1_judgeJobs 0 0 [.ref 67, .ref t] GX M Q := by
  refine Ca_of rfl (Nat.le_of_ble_eq_true rfl) ?_
  refine Ru_iconst (pc := 0) (nI 0) dX1_judgeJobs_0 rfl ?_
  refine Ru_istore_n (pc := 1) dX1_judgeJobs_1 rfl rfl (by decide) ?_
  exact Ru_weak (l_X1_judgeJobs hu hx wf wj hpj k (d 4) 0 M rfl (Nat.zero_le _) (fun i hi => by omega) r_fx.rf) rfl

theorem nb_f {b : Bool} (h : b = false) : ¬ b = true := by rw [h]; decide
def X_jt (n : Nat) (q : Jt) (M : Mem) : Prop := M.1 70 0 = nI q.1 ∧ (∀ i, i < n → M.1 72 i = r_b (q.2.1 i)) ∧ (M.1 67 3 = nM q.2.2.1 ∧ q.2.2.1 ≤ 24) ∧ (¬ q.2.2.1 = 0 → M.1 67 2 = nI q.2.2.2)
theorem nM_iff {n : Nat} (h : n < 2147483648) : (nM n).toInt = -1 ↔ n = 0 := by
  rw [nM_t h]
  omega

theorem c_X1_areThere {Q : Rq} {M : Mem} {j v n : Nat} {q : Jt} (hq : X_jt n q M) (hj : j < 24) (hv : v < 256) (k : ∀ M', r_fx [(67, 2), (67, 3)] [72] M M' → X_jt n (jL q j v) M' → Q (some (.int (r_b (decide (r_dif v q.1 = 0))))) GX M') : Ca 1 mt_X1_areThere 0 0 [.ref 67, .int (nI j), .int (nI v)] GX M Q := by
  refine Ca_of rfl (Nat.le_of_ble_eq_true rfl) ?_
  have hq24 := hq.2.2.1.2
  refine Ru_iload_n (pc := 0) dX1_areThere_0 rfl rfl ?_
  refine Ru_aload_n (pc := 1) dX1_areThere_1 rfl rfl ?_
  refine Ru_getR (pc := 2) 70 dX1_areThere_2 fl_X1_21 rfl rfl (rfX_of (o := 67) (j := 3) rfl rfl) ?_
  refine Ru_getI (pc := 5) dX1_areThere_5 fl_X1_103 rfl rfl ?_
  refine Ru_top hq.1 ?_
  refine Ru_iconst (pc := 8) (-1) dX1_areThere_8 rfl ?_
  refine Ru_ixor (pc := 9) dX1_areThere_9 ?_
  refine Ru_idifN (pc := 10) dX1_areThere_10 ?_
  refine Ru_istore_n (pc := 11) dX1_areThere_11 rfl rfl (by decide) ?_
  refine Ru_iload_n (pc := 12) dX1_areThere_12 rfl rfl ?_
  refine Ru_if_neN (pc := 13) 18 dX1_areThere_13 (by decide) (Nat.lt_of_le_of_lt (r_dif_le _ _) (by omega)) (fun h1 => ?_) (fun h1 => ?_)
  · refine Ru_aload_n (pc := 18) dX1_areThere_18 rfl rfl ?_
    refine Ru_getR (pc := 19) 72 dX1_areThere_19 fl_X1_28 rfl rfl (rfX_of (o := 67) (j := 5) rfl rfl) ?_
    refine Ru_iload_n (pc := 22) dX1_areThere_22 rfl rfl ?_
    refine Ru_iconst (pc := 23) (nI 1) dX1_areThere_23 rfl ?_
    refine Ru_zast (pc := 24) rfl dX1_areThere_24 rfl (by omega) (Or.inr rfl) ?_
    refine Ru_aload_n (pc := 25) dX1_areThere_25 rfl rfl ?_
    refine Ru_getI (pc := 26) dX1_areThere_26 fl_X1_68 rfl rfl ?_
    refine Ru_top ((r_sI_n (by omega)).trans hq.2.2.1.1) ?_
    refine Ru_iconst (pc := 29) (-1) dX1_areThere_29 rfl ?_
    refine Ru_icmp_neT (pc := 30) 46 dX1_areThere_30 (by decide) (fun h2 => ?_) (fun h2 => ?_)
    · have hz : ¬ q.2.2.1 = 0 := fun z => h2 ((nM_iff (by omega)).mpr z)
      refine Ru_iconst (pc := 46) (nI 0) dX1_areThere_46 rfl ?_
      refine Ru_zret (pc := 47) dX1_areThere_47 rfl ⟨Nat.le_refl _, Nat.le_refl _⟩ (Or.inl rfl) ?_
      have hzv : ¬ r_dif v q.1 = 0 := by assumption
      rw [decide_eq_false hzv, show jL q j v = (q.1, (fun i => if i = j then true else q.2.1 i), q.2.2) from by unfold jL; rw [if_neg hzv, if_neg hz]] at k
      refine k _ (r_fx.sI rfl r_fx.rf) ⟨((r_sI_n (by omega)).trans hq.1), fun i hi => ?_, ⟨((r_sI_n (by omega)).trans hq.2.2.1.1), hq.2.2.1.2⟩, fun z => ((r_sI_n (by omega)).trans (hq.2.2.2 z))⟩
      rw [r_sI_g]
      by_cases e : i = j
      · subst e
        rw [if_pos ⟨rfl, rfl⟩]
        show _ = r_b (if i = i then true else _)
        rw [if_pos rfl]
        rfl
      · rw [if_neg (fun z => e z.2)]
        show _ = r_b (if i = j then true else _)
        rw [if_neg e]
        exact hq.2.1 i hi
    · have hz : q.2.2.1 = 0 := (nM_iff (by omega)).mp h2
      refine Ru_aload_n (pc := 33) dX1_areThere_33 rfl rfl ?_
      refine Ru_iload_n (pc := 34) dX1_areThere_34 rfl rfl ?_
      refine Ru_putI (pc := 35) rfl dX1_areThere_35 fl_X1_68 rfl ?_
      refine Ru_aload_n (pc := 38) dX1_areThere_38 rfl rfl ?_
      refine Ru_iload_n (pc := 39) dX1_areThere_39 rfl rfl ?_
      refine Ru_cs1 (pc := 40) dX1_areThere_40 ms_X1_181 (by decide) (Nat.le_of_ble_eq_true rfl) (c_X_ntz (s := (r_dif v q.1)) (Nat.lt_of_le_of_lt (r_dif_le _ _) hv) (by omega) ?_) 
      refine Ru_putI (pc := 43) rfl dX1_areThere_43 fl_X1_184 rfl ?_
      refine Ru_iconst (pc := 46) (nI 0) dX1_areThere_46 rfl ?_
      refine Ru_zret (pc := 47) dX1_areThere_47 rfl ⟨Nat.le_refl _, Nat.le_refl _⟩ (Or.inl rfl) ?_
      have hzv : ¬ r_dif v q.1 = 0 := by assumption
      rw [decide_eq_false hzv, show jL q j v = (q.1, (fun i => if i = j then true else q.2.1 i), (j + 1, tz (r_dif v q.1))) from by unfold jL; rw [if_neg hzv, if_pos hz]] at k
      refine k _ (r_fx.sI rfl (r_fx.sI rfl (r_fx.sI rfl r_fx.rf))) ⟨((r_sI_n (by decide)).trans ((r_sI_n (by decide)).trans ((r_sI_n (by omega)).trans hq.1))), fun i hi => ?_, ⟨((r_sI_n (by decide)).trans r_sI_s), (by show j + 1 ≤ 24; omega)⟩, fun z => r_sI_s⟩
      refine (r_sI_n (by omega)).trans ((r_sI_n (by omega)).trans ?_)
      rw [r_sI_g]
      by_cases e : i = j
      · subst e
        rw [if_pos ⟨rfl, rfl⟩]
        show _ = r_b (if i = i then true else _)
        rw [if_pos rfl]
        rfl
      · rw [if_neg (fun z => e z.2)]
        show _ = r_b (if i = j then true else _)
        rw [if_neg e]
        exact hq.2.1 i hi
  · refine Ru_iconst (pc := 16) (nI 1) dX1_areThere_16 rfl ?_
    refine Ru_zret (pc := 17) dX1_areThere_17 rfl ⟨Nat.le_refl _, Nat.le_refl _⟩ (Or.inr rfl) ?_
    have e : jL q j v = q := by
      unfold jL
      rw [if_pos (by assumption)]
    rw [decide_eq_true (show r_dif v q.1 = 0 by assumption), e] at k
    exact k M r_fx.rf hq
