-- DEEDS OF THE DEVELOPERS' OWN: many days
theorem jV_n {d : Td} {il : Bool} {s n : Nat} : jV d il s (n + 1) = jV1 d il n (jV d il s n) := rfl
theorem jDr_n {d : Td} {s p : Nat} : jDr d s (p + 1) = (jDw (jDr d s p).1, if jDw (jDr d s p).1 / 8 % 16 < d (101 + p) then (jDr d s p).2 ||| 2 ^ p else (jDr d s p).2) := rfl
theorem jX_had {d : Td} (wf : Wf d) (s ill : Nat) : (jX d s ill).2.2 ≤ 200 := (jT_b wf (x := jX0 d s ill) ⟨rfl, rfl⟩ 25).2.1
theorem jX_z {d : Td} (wf : Wf d) (s ill : Nat) : (jX d s ill).2.1 = 0 ↔ (jX d s ill).2.2 = 0 := (jT_b wf (x := jX0 d s ill) ⟨rfl, rfl⟩ 25).2.2

theorem l_X1_doDays_f {Q : Rq} {M0 : Mem} {mk t lw pl : Nat} {d : Td} (hu0 : X_cu mk t lw pl d M0) (hx0 : X_tm t d M0) (wf : Wf d) (wj : Wj d) (hpj0 : X_pj pl d M0) (hlw0 : X_lw lw d M0) (hwl : Wl d) {n9 : Nat} (hn9 : n9 ≤ 99) (hwy0 : ∀ j, j < d 4 → M0.1 71 j = nI (jW d j)) (k : ∀ M, M.1 70 0 = nI (jV d false 0 n9).1.1 → M.1 70 1 = nI (jV d false 0 n9).1.2.2 → r_fx [(46, 0), (46, 2), (67, 2), (67, 3), (70, 0), (70, 1), (70, 2)] [47, 48, 72, 73, 74] M0 M → Ru 5 mt_X1_doDays r_z 184 [(0, some (.ref 67)), (1, some (.ref t)), (2, some (.ref 46)), (3, some (.int (nI n9))), (4, some (.int (-1))), (5, some (.int (nI (jV d false 0 n9).2.1))), (6, some (.int (nI (jV d false 0 n9).2.2.1))), (7, some (.int (nI (jV d false 0 n9).2.2.2))), (8, some (.int (-1))), (9, some (.int (nI n9)))] [] GX M Q) : ∀ (zw : Nat) (n : Nat) (M : Mem), n9 - n = zw → (n ≤ n9) → (M.1 70 0 = nI (jV d false 0 n).1.1) → (M.1 70 1 = nI (jV d false 0 n).1.2.2) → (r_fx [(46, 0), (46, 2), (67, 2), (67, 3), (70, 0), (70, 1), (70, 2)] [47, 48, 72, 73, 74] M0 M) → Ru 5 mt_X1_doDays r_z 29 [(0, some (.ref 67)), (1, some (.ref t)), (2, some (.ref 46)), (3, some (.int (nI n9))), (4, some (.int (-1))), (5, some (.int (nI (jV d false 0 n).2.1))), (6, some (.int (nI (jV d false 0 n).2.2.1))), (7, some (.int (nI (jV d false 0 n).2.2.2))), (8, some (.int (-1))), (9, some (.int (nI n)))] [] GX M Q := by
  intro zw
  induction zw using Nat.strongRecOn with
  | ind zw ih =>
    intro n M hw hn h70 h71 fx
    subst hw
    have hb := wf.1
    have ht : isTown t := hu0.1.2.2.2
    have hpl : isPlan pl := hu0.2.2.2.1
    have hlwi : isLaw lw := hu0.2.1.2.1
    have hu : X_cu mk t lw pl d M := (X_cu_dp mk t lw pl d).kp fx rfl hu0
    have hx : X_tm t d M := (X_tm_dp ht d).kp fx rfl hx0
    have hvb := jV_b (d := d) wf (il := false) (s := 0) (by omega) n
    refine Ru_iload (pc := 29) dX1_doDays_29 rfl ?_
    refine Ru_iload_n (pc := 31) dX1_doDays_31 rfl rfl ?_
    refine Ru_icmp_geN (pc := 32) 184 dX1_doDays_32 (by decide) (by omega) (fun h1 => ?_) (fun h1 => ?_)
    · have en : n = n9 := by omega
      subst en
      exact Ru_weak (k M h70 h71 fx) rfl
    · refine Ru_iconst (pc := 35) (nI 0) dX1_doDays_35 rfl ?_
      refine Ru_istore (pc := 36) dX1_doDays_36 rfl (by decide) ?_
      refine Ru_iconst (pc := 38) (nI 0) dX1_doDays_38 rfl ?_
      refine Ru_istore (pc := 39) dX1_doDays_39 rfl (by decide) ?_
      refine Ru_iload (pc := 41) dX1_doDays_41 rfl ?_
      refine Ru_aload_n (pc := 43) dX1_doDays_43 rfl rfl ?_
      refine Ru_getR (pc := 44) (t + 10) dX1_doDays_44 fl_X1_84 (shTown_0 ht) rfl (rfX_of (o := t) (j := 10) (shTown_0 ht) rfl) ?_
      refine Ru_getI (pc := 47) dX1_doDays_47 fl_X1_88 (shNames_0 (isNames_t ht).2.2) rfl ?_
      refine Ru_top hx.1.2.2.1 ?_
      refine Ru_icmp_geN (pc := 50) 111 dX1_doDays_50 (by decide) (by omega) (fun h2 => ?_) (fun h2 => ?_)
      · refine Ru_weak (L' := [(0, some (.ref 67)), (1, some (.ref t)), (2, some (.ref 46)), (3, some (.int (nI n9))), (4, some (.int (-1))), (5, some (.int (nI (jV d false 0 n).2.1))), (6, some (.int (nI (jV d false 0 n).2.2.1))), (7, some (.int (nI (jV d false 0 n).2.2.2))), (8, some (.int (-1))), (9, some (.int (nI n))), (10, some (.int (nI (jSk d false (jV d false 0 n).1.2.1).2))), (11, some (.int (nI 0)))]) ?_ rfl
        refine Ru_aload_n (pc := 111) dX1_doDays_111 rfl rfl ?_
        refine Ru_getR (pc := 112) 70 dX1_doDays_112 fl_X1_21 rfl rfl (rfX_of (o := 67) (j := 3) rfl rfl) ?_
        refine Ru_iconst (pc := 115) (nI 0) dX1_doDays_115 rfl ?_
        refine Ru_putI (pc := 116) rfl dX1_doDays_116 fl_X1_97 rfl ?_
        refine Ru_iload (pc := 119) dX1_doDays_119 rfl ?_
        refine Ru_aload_n (pc := 121) dX1_doDays_121 rfl rfl ?_
        refine Ru_aload_n (pc := 122) dX1_doDays_122 rfl rfl ?_
        refine Ru_aload_n (pc := 123) dX1_doDays_123 rfl rfl ?_
        refine Ru_iload (pc := 124) dX1_doDays_124 rfl ?_
        refine Ru_iload (pc := 126) dX1_doDays_126 rfl ?_
        have hM4 : ∃ M4, M4 = r_sI M 70 2 (nI 0) := ⟨_, rfl⟩
        obtain ⟨M4, e4⟩ := hM4
        rw [← e4]
        have gx4 : r_fx [(70, 2)] [] M M4 := by
          rw [e4]
          exact r_fx.sI rfl r_fx.rf
        have h704 : M4.1 70 0 = nI (jV d false 0 n).1.1 := (gx4 70 0 rfl).1.trans h70
        have h714 : M4.1 70 1 = nI (jV d false 0 n).1.2.2 := (gx4 70 1 rfl).1.trans h71
        have h724 : M4.1 70 2 = nI 0 := by
          rw [e4]
          exact r_sI_s
        have fx4 : r_fx [(46, 0), (46, 2), (67, 2), (67, 3), (70, 0), (70, 1), (70, 2)] [47, 48, 72, 73, 74] M0 M4 := fx.tr (gx4.mono rfl)
        have hu4 : X_cu mk t lw pl d M4 := (X_cu_dp mk t lw pl d).kp fx4 rfl hu0
        have hx4 : X_tm t d M4 := (X_tm_dp ht d).kp fx4 rfl hx0
        have hpj4 : X_pj pl d M4 := (X_pj_dp hpl d).kp fx4 rfl hpj0
        have hlw4 : X_lw lw d M4 := (X_lw_dp hlwi d).kp fx4 rfl hlw0
        have hwy4 : ∀ j, j < d 4 → M4.1 71 j = nI (jW d j) := fun j hj => (fx4 71 j rfl).1.trans (hwy0 j hj)
        refine Ru_cv4 (pc := 128) dX1_doDays_128 mv_X1_64 rfl (by decide) (Nat.le_of_ble_eq_true rfl) (c_X1_live (y := n) (s := (jV d false 0 n).1.1) (ill := (jSk d false (jV d false 0 n).1.2.1).2) (W0 := (jV d false 0 n).1.2.2) (H0 := 0) hu4 hx4 wf wj hpj4 hlw4 hwl (by omega) hvb.1 (jSk_b wf hvb.2) hwy4 h704 h714 h724 (fun M5 gx5 hs5 ha5 hb5 hl5 hl6 hsn5 => ?_)) 
        have fx5 : r_fx [(46, 0), (46, 2), (67, 2), (67, 3), (70, 0), (70, 1), (70, 2)] [47, 48, 72, 73, 74] M0 M5 := fx4.tr (gx5.mono rfl)
        rw [Nat.zero_add] at hb5
        have hu5 : X_cu mk t lw pl d M5 := (X_cu_dp mk t lw pl d).kp fx5 rfl hu0
        have hx5 : X_tm t d M5 := (X_tm_dp ht d).kp fx5 rfl hx0
        have hhb := jX_had wf (jV d false 0 n).1.1 (jSk d false (jV d false 0 n).1.2.1).2
        refine Ru_iaddN (pc := 131) dX1_doDays_131 ?_
        refine Ru_istore (pc := 132) dX1_doDays_132 rfl (by decide) ?_
        refine Ru_iload (pc := 134) dX1_doDays_134 rfl ?_
        refine Ru_aload_n (pc := 136) dX1_doDays_136 rfl rfl ?_
        refine Ru_getR (pc := 137) 70 dX1_doDays_137 fl_X1_21 rfl rfl (rfX_of (o := 67) (j := 3) rfl rfl) ?_
        refine Ru_getI (pc := 140) dX1_doDays_140 fl_X1_97 rfl rfl ?_
        refine Ru_top hb5 ?_
        refine Ru_aload_n (pc := 143) dX1_doDays_143 rfl rfl ?_
        refine Ru_getI (pc := 144) dX1_doDays_144 fl_X1_100 (shTown_0 ht) rfl ?_
        refine Ru_top hx5.1.2.2.2 ?_
        refine Ru_icmp_neN (pc := 147) 154 dX1_doDays_147 (by decide) ⟨by omega, by omega⟩ (fun h1 => ?_) (fun h1 => ?_)
        · refine Ru_iconst (pc := 154) (nI 0) dX1_doDays_154 rfl ?_
          refine Ru_iaddN (pc := 155) dX1_doDays_155 ?_
          refine Ru_istore (pc := 156) dX1_doDays_156 rfl (by decide) ?_
          refine Ru_iload (pc := 158) dX1_doDays_158 rfl ?_
          refine Ru_aload_n (pc := 160) dX1_doDays_160 rfl rfl ?_
          refine Ru_getR (pc := 161) 70 dX1_doDays_161 fl_X1_21 rfl rfl (rfX_of (o := 67) (j := 3) rfl rfl) ?_
          refine Ru_getI (pc := 164) dX1_doDays_164 fl_X1_97 rfl rfl ?_
          refine Ru_top hb5 ?_
          refine Ru_if_neN (pc := 167) 174 dX1_doDays_167 (by decide) (by omega) (fun h2 => ?_) (fun h2 => ?_)
          · refine Ru_iconst (pc := 174) (nI 0) dX1_doDays_174 rfl ?_
            refine Ru_iaddN (pc := 175) dX1_doDays_175 ?_
            refine Ru_istore (pc := 176) dX1_doDays_176 rfl (by decide) ?_
            refine Ru_iincN (pc := 178) 1 dX1_doDays_178 rfl rfl rfl (by decide) ?_
            refine Ru_goto (pc := 181) 29 dX1_doDays_181 (by decide) ?_
            have e1 : (jV d false 0 (n + 1)).2.1 = ((jV d false 0 n).2.1 + (jCt (jQ d (jV d false 0 n).1.1 (jSk d false (jV d false 0 n).1.2.1).2).2.1 (d 4))) := rfl
            have e2 : (jV d false 0 (n + 1)).2.2.1 = ((jV d false 0 n).2.2.1 + 0) := by
              show (jV d false 0 n).2.2.1 + (if _ then _ else _) = _
              rw [if_neg (by omega)]
            have e3 : (jV d false 0 (n + 1)).2.2.2 = ((jV d false 0 n).2.2.2 + 0) := by
              show (jV d false 0 n).2.2.2 + (if _ then _ else _) = _
              rw [if_neg (by omega)]
            have hr := ih (n9 - (n + 1)) (by omega) (n + 1) M5 rfl (by omega) hs5 ha5 fx5
            rw [e1, e2, e3] at hr
            exact Ru_weak hr rfl
          · refine Ru_iconst (pc := 170) (nI 1) dX1_doDays_170 rfl ?_
            refine Ru_goto (pc := 171) 175 dX1_doDays_171 (by decide) ?_
            refine Ru_iaddN (pc := 175) dX1_doDays_175 ?_
            refine Ru_istore (pc := 176) dX1_doDays_176 rfl (by decide) ?_
            refine Ru_iincN (pc := 178) 1 dX1_doDays_178 rfl rfl rfl (by decide) ?_
            refine Ru_goto (pc := 181) 29 dX1_doDays_181 (by decide) ?_
            have e1 : (jV d false 0 (n + 1)).2.1 = ((jV d false 0 n).2.1 + (jCt (jQ d (jV d false 0 n).1.1 (jSk d false (jV d false 0 n).1.2.1).2).2.1 (d 4))) := rfl
            have e2 : (jV d false 0 (n + 1)).2.2.1 = ((jV d false 0 n).2.2.1 + 0) := by
              show (jV d false 0 n).2.2.1 + (if _ then _ else _) = _
              rw [if_neg (by omega)]
            have e3 : (jV d false 0 (n + 1)).2.2.2 = ((jV d false 0 n).2.2.2 + 1) := by
              show (jV d false 0 n).2.2.2 + (if _ then _ else _) = _
              rw [if_pos (by omega)]
            have hr := ih (n9 - (n + 1)) (by omega) (n + 1) M5 rfl (by omega) hs5 ha5 fx5
            rw [e1, e2, e3] at hr
            exact Ru_weak hr rfl
        · refine Ru_iconst (pc := 150) (nI 1) dX1_doDays_150 rfl ?_
          refine Ru_goto (pc := 151) 155 dX1_doDays_151 (by decide) ?_
          refine Ru_iaddN (pc := 155) dX1_doDays_155 ?_
          refine Ru_istore (pc := 156) dX1_doDays_156 rfl (by decide) ?_
          refine Ru_iload (pc := 158) dX1_doDays_158 rfl ?_
          refine Ru_aload_n (pc := 160) dX1_doDays_160 rfl rfl ?_
          refine Ru_getR (pc := 161) 70 dX1_doDays_161 fl_X1_21 rfl rfl (rfX_of (o := 67) (j := 3) rfl rfl) ?_
          refine Ru_getI (pc := 164) dX1_doDays_164 fl_X1_97 rfl rfl ?_
          refine Ru_top hb5 ?_
          refine Ru_if_neN (pc := 167) 174 dX1_doDays_167 (by decide) (by omega) (fun h3 => ?_) (fun h3 => ?_)
          · refine Ru_iconst (pc := 174) (nI 0) dX1_doDays_174 rfl ?_
            refine Ru_iaddN (pc := 175) dX1_doDays_175 ?_
            refine Ru_istore (pc := 176) dX1_doDays_176 rfl (by decide) ?_
            refine Ru_iincN (pc := 178) 1 dX1_doDays_178 rfl rfl rfl (by decide) ?_
            refine Ru_goto (pc := 181) 29 dX1_doDays_181 (by decide) ?_
            have e1 : (jV d false 0 (n + 1)).2.1 = ((jV d false 0 n).2.1 + (jCt (jQ d (jV d false 0 n).1.1 (jSk d false (jV d false 0 n).1.2.1).2).2.1 (d 4))) := rfl
            have e2 : (jV d false 0 (n + 1)).2.2.1 = ((jV d false 0 n).2.2.1 + 1) := by
              show (jV d false 0 n).2.2.1 + (if _ then _ else _) = _
              rw [if_pos (by omega)]
            have e3 : (jV d false 0 (n + 1)).2.2.2 = ((jV d false 0 n).2.2.2 + 0) := by
              show (jV d false 0 n).2.2.2 + (if _ then _ else _) = _
              rw [if_neg (by omega)]
            have hr := ih (n9 - (n + 1)) (by omega) (n + 1) M5 rfl (by omega) hs5 ha5 fx5
            rw [e1, e2, e3] at hr
            exact Ru_weak hr rfl
          · refine Ru_iconst (pc := 170) (nI 1) dX1_doDays_170 rfl ?_
            refine Ru_goto (pc := 171) 175 dX1_doDays_171 (by decide) ?_
            refine Ru_iaddN (pc := 175) dX1_doDays_175 ?_
            refine Ru_istore (pc := 176) dX1_doDays_176 rfl (by decide) ?_
            refine Ru_iincN (pc := 178) 1 dX1_doDays_178 rfl rfl rfl (by decide) ?_
            refine Ru_goto (pc := 181) 29 dX1_doDays_181 (by decide) ?_
            have e1 : (jV d false 0 (n + 1)).2.1 = ((jV d false 0 n).2.1 + (jCt (jQ d (jV d false 0 n).1.1 (jSk d false (jV d false 0 n).1.2.1).2).2.1 (d 4))) := rfl
            have e2 : (jV d false 0 (n + 1)).2.2.1 = ((jV d false 0 n).2.2.1 + 1) := by
              show (jV d false 0 n).2.2.1 + (if _ then _ else _) = _
              rw [if_pos (by omega)]
            have e3 : (jV d false 0 (n + 1)).2.2.2 = ((jV d false 0 n).2.2.2 + 1) := by
              show (jV d false 0 n).2.2.2 + (if _ then _ else _) = _
              rw [if_pos (by omega)]
            have hr := ih (n9 - (n + 1)) (by omega) (n + 1) M5 rfl (by omega) hs5 ha5 fx5
            rw [e1, e2, e3] at hr
            exact Ru_weak hr rfl
      · refine Ru_iload (pc := 53) dX1_doDays_53 rfl ?_
        refine Ru_iconst (pc := 55) (-1) dX1_doDays_55 rfl ?_
        refine Ru_icmp_eqT (pc := 56) 111 dX1_doDays_56 (by decide) (fun h3 => ?_) (fun h3 => ?_)
        · refine Ru_weak (L' := [(0, some (.ref 67)), (1, some (.ref t)), (2, some (.ref 46)), (3, some (.int (nI n9))), (4, some (.int (-1))), (5, some (.int (nI (jV d false 0 n).2.1))), (6, some (.int (nI (jV d false 0 n).2.2.1))), (7, some (.int (nI (jV d false 0 n).2.2.2))), (8, some (.int (-1))), (9, some (.int (nI n))), (10, some (.int (nI (jSk d false (jV d false 0 n).1.2.1).2))), (11, some (.int (nI 0)))]) ?_ rfl
          refine Ru_aload_n (pc := 111) dX1_doDays_111 rfl rfl ?_
          refine Ru_getR (pc := 112) 70 dX1_doDays_112 fl_X1_21 rfl rfl (rfX_of (o := 67) (j := 3) rfl rfl) ?_
          refine Ru_iconst (pc := 115) (nI 0) dX1_doDays_115 rfl ?_
          refine Ru_putI (pc := 116) rfl dX1_doDays_116 fl_X1_97 rfl ?_
          refine Ru_iload (pc := 119) dX1_doDays_119 rfl ?_
          refine Ru_aload_n (pc := 121) dX1_doDays_121 rfl rfl ?_
          refine Ru_aload_n (pc := 122) dX1_doDays_122 rfl rfl ?_
          refine Ru_aload_n (pc := 123) dX1_doDays_123 rfl rfl ?_
          refine Ru_iload (pc := 124) dX1_doDays_124 rfl ?_
          refine Ru_iload (pc := 126) dX1_doDays_126 rfl ?_
          have hM4 : ∃ M4, M4 = r_sI M 70 2 (nI 0) := ⟨_, rfl⟩
          obtain ⟨M4, e4⟩ := hM4
          rw [← e4]
          have gx4 : r_fx [(70, 2)] [] M M4 := by
            rw [e4]
            exact r_fx.sI rfl r_fx.rf
          have h704 : M4.1 70 0 = nI (jV d false 0 n).1.1 := (gx4 70 0 rfl).1.trans h70
          have h714 : M4.1 70 1 = nI (jV d false 0 n).1.2.2 := (gx4 70 1 rfl).1.trans h71
          have h724 : M4.1 70 2 = nI 0 := by
            rw [e4]
            exact r_sI_s
          have fx4 : r_fx [(46, 0), (46, 2), (67, 2), (67, 3), (70, 0), (70, 1), (70, 2)] [47, 48, 72, 73, 74] M0 M4 := fx.tr (gx4.mono rfl)
          have hu4 : X_cu mk t lw pl d M4 := (X_cu_dp mk t lw pl d).kp fx4 rfl hu0
          have hx4 : X_tm t d M4 := (X_tm_dp ht d).kp fx4 rfl hx0
          have hpj4 : X_pj pl d M4 := (X_pj_dp hpl d).kp fx4 rfl hpj0
          have hlw4 : X_lw lw d M4 := (X_lw_dp hlwi d).kp fx4 rfl hlw0
          have hwy4 : ∀ j, j < d 4 → M4.1 71 j = nI (jW d j) := fun j hj => (fx4 71 j rfl).1.trans (hwy0 j hj)
          refine Ru_cv4 (pc := 128) dX1_doDays_128 mv_X1_64 rfl (by decide) (Nat.le_of_ble_eq_true rfl) (c_X1_live (y := n) (s := (jV d false 0 n).1.1) (ill := (jSk d false (jV d false 0 n).1.2.1).2) (W0 := (jV d false 0 n).1.2.2) (H0 := 0) hu4 hx4 wf wj hpj4 hlw4 hwl (by omega) hvb.1 (jSk_b wf hvb.2) hwy4 h704 h714 h724 (fun M5 gx5 hs5 ha5 hb5 hl5 hl6 hsn5 => ?_)) 
          have fx5 : r_fx [(46, 0), (46, 2), (67, 2), (67, 3), (70, 0), (70, 1), (70, 2)] [47, 48, 72, 73, 74] M0 M5 := fx4.tr (gx5.mono rfl)
          rw [Nat.zero_add] at hb5
          have hu5 : X_cu mk t lw pl d M5 := (X_cu_dp mk t lw pl d).kp fx5 rfl hu0
          have hx5 : X_tm t d M5 := (X_tm_dp ht d).kp fx5 rfl hx0
          have hhb := jX_had wf (jV d false 0 n).1.1 (jSk d false (jV d false 0 n).1.2.1).2
          refine Ru_iaddN (pc := 131) dX1_doDays_131 ?_
          refine Ru_istore (pc := 132) dX1_doDays_132 rfl (by decide) ?_
          refine Ru_iload (pc := 134) dX1_doDays_134 rfl ?_
          refine Ru_aload_n (pc := 136) dX1_doDays_136 rfl rfl ?_
          refine Ru_getR (pc := 137) 70 dX1_doDays_137 fl_X1_21 rfl rfl (rfX_of (o := 67) (j := 3) rfl rfl) ?_
          refine Ru_getI (pc := 140) dX1_doDays_140 fl_X1_97 rfl rfl ?_
          refine Ru_top hb5 ?_
          refine Ru_aload_n (pc := 143) dX1_doDays_143 rfl rfl ?_
          refine Ru_getI (pc := 144) dX1_doDays_144 fl_X1_100 (shTown_0 ht) rfl ?_
          refine Ru_top hx5.1.2.2.2 ?_
          refine Ru_icmp_neN (pc := 147) 154 dX1_doDays_147 (by decide) ⟨by omega, by omega⟩ (fun h1 => ?_) (fun h1 => ?_)
          · refine Ru_iconst (pc := 154) (nI 0) dX1_doDays_154 rfl ?_
            refine Ru_iaddN (pc := 155) dX1_doDays_155 ?_
            refine Ru_istore (pc := 156) dX1_doDays_156 rfl (by decide) ?_
            refine Ru_iload (pc := 158) dX1_doDays_158 rfl ?_
            refine Ru_aload_n (pc := 160) dX1_doDays_160 rfl rfl ?_
            refine Ru_getR (pc := 161) 70 dX1_doDays_161 fl_X1_21 rfl rfl (rfX_of (o := 67) (j := 3) rfl rfl) ?_
            refine Ru_getI (pc := 164) dX1_doDays_164 fl_X1_97 rfl rfl ?_
            refine Ru_top hb5 ?_
            refine Ru_if_neN (pc := 167) 174 dX1_doDays_167 (by decide) (by omega) (fun h2 => ?_) (fun h2 => ?_)
            · refine Ru_iconst (pc := 174) (nI 0) dX1_doDays_174 rfl ?_
              refine Ru_iaddN (pc := 175) dX1_doDays_175 ?_
              refine Ru_istore (pc := 176) dX1_doDays_176 rfl (by decide) ?_
              refine Ru_iincN (pc := 178) 1 dX1_doDays_178 rfl rfl rfl (by decide) ?_
              refine Ru_goto (pc := 181) 29 dX1_doDays_181 (by decide) ?_
              have e1 : (jV d false 0 (n + 1)).2.1 = ((jV d false 0 n).2.1 + (jCt (jQ d (jV d false 0 n).1.1 (jSk d false (jV d false 0 n).1.2.1).2).2.1 (d 4))) := rfl
              have e2 : (jV d false 0 (n + 1)).2.2.1 = ((jV d false 0 n).2.2.1 + 0) := by
                show (jV d false 0 n).2.2.1 + (if _ then _ else _) = _
                rw [if_neg (by omega)]
              have e3 : (jV d false 0 (n + 1)).2.2.2 = ((jV d false 0 n).2.2.2 + 0) := by
                show (jV d false 0 n).2.2.2 + (if _ then _ else _) = _
                rw [if_neg (by omega)]
              have hr := ih (n9 - (n + 1)) (by omega) (n + 1) M5 rfl (by omega) hs5 ha5 fx5
              rw [e1, e2, e3] at hr
              exact Ru_weak hr rfl
            · refine Ru_iconst (pc := 170) (nI 1) dX1_doDays_170 rfl ?_
              refine Ru_goto (pc := 171) 175 dX1_doDays_171 (by decide) ?_
              refine Ru_iaddN (pc := 175) dX1_doDays_175 ?_
              refine Ru_istore (pc := 176) dX1_doDays_176 rfl (by decide) ?_
              refine Ru_iincN (pc := 178) 1 dX1_doDays_178 rfl rfl rfl (by decide) ?_
              refine Ru_goto (pc := 181) 29 dX1_doDays_181 (by decide) ?_
              have e1 : (jV d false 0 (n + 1)).2.1 = ((jV d false 0 n).2.1 + (jCt (jQ d (jV d false 0 n).1.1 (jSk d false (jV d false 0 n).1.2.1).2).2.1 (d 4))) := rfl
              have e2 : (jV d false 0 (n + 1)).2.2.1 = ((jV d false 0 n).2.2.1 + 0) := by
                show (jV d false 0 n).2.2.1 + (if _ then _ else _) = _
                rw [if_neg (by omega)]
              have e3 : (jV d false 0 (n + 1)).2.2.2 = ((jV d false 0 n).2.2.2 + 1) := by
                show (jV d false 0 n).2.2.2 + (if _ then _ else _) = _
                rw [if_pos (by omega)]
              have hr := ih (n9 - (n + 1)) (by omega) (n + 1) M5 rfl (by omega) hs5 ha5 fx5
              rw [e1, e2, e3] at hr
              exact Ru_weak hr rfl
          · refine Ru_iconst (pc := 150) (nI 1) dX1_doDays_150 rfl ?_
            refine Ru_goto (pc := 151) 155 dX1_doDays_151 (by decide) ?_
            refine Ru_iaddN (pc := 155) dX1_doDays_155 ?_
            refine Ru_istore (pc := 156) dX1_doDays_156 rfl (by decide) ?_
            refine Ru_iload (pc := 158) dX1_doDays_158 rfl ?_
            refine Ru_aload_n (pc := 160) dX1_doDays_160 rfl rfl ?_
            refine Ru_getR (pc := 161) 70 dX1_doDays_161 fl_X1_21 rfl rfl (rfX_of (o := 67) (j := 3) rfl rfl) ?_
            refine Ru_getI (pc := 164) dX1_doDays_164 fl_X1_97 rfl rfl ?_
            refine Ru_top hb5 ?_
            refine Ru_if_neN (pc := 167) 174 dX1_doDays_167 (by decide) (by omega) (fun h3 => ?_) (fun h3 => ?_)
            · refine Ru_iconst (pc := 174) (nI 0) dX1_doDays_174 rfl ?_
              refine Ru_iaddN (pc := 175) dX1_doDays_175 ?_
              refine Ru_istore (pc := 176) dX1_doDays_176 rfl (by decide) ?_
              refine Ru_iincN (pc := 178) 1 dX1_doDays_178 rfl rfl rfl (by decide) ?_
              refine Ru_goto (pc := 181) 29 dX1_doDays_181 (by decide) ?_
              have e1 : (jV d false 0 (n + 1)).2.1 = ((jV d false 0 n).2.1 + (jCt (jQ d (jV d false 0 n).1.1 (jSk d false (jV d false 0 n).1.2.1).2).2.1 (d 4))) := rfl
              have e2 : (jV d false 0 (n + 1)).2.2.1 = ((jV d false 0 n).2.2.1 + 1) := by
                show (jV d false 0 n).2.2.1 + (if _ then _ else _) = _
                rw [if_pos (by omega)]
              have e3 : (jV d false 0 (n + 1)).2.2.2 = ((jV d false 0 n).2.2.2 + 0) := by
                show (jV d false 0 n).2.2.2 + (if _ then _ else _) = _
                rw [if_neg (by omega)]
              have hr := ih (n9 - (n + 1)) (by omega) (n + 1) M5 rfl (by omega) hs5 ha5 fx5
              rw [e1, e2, e3] at hr
              exact Ru_weak hr rfl
            · refine Ru_iconst (pc := 170) (nI 1) dX1_doDays_170 rfl ?_
              refine Ru_goto (pc := 171) 175 dX1_doDays_171 (by decide) ?_
              refine Ru_iaddN (pc := 175) dX1_doDays_175 ?_
              refine Ru_istore (pc := 176) dX1_doDays_176 rfl (by decide) ?_
              refine Ru_iincN (pc := 178) 1 dX1_doDays_178 rfl rfl rfl (by decide) ?_
              refine Ru_goto (pc := 181) 29 dX1_doDays_181 (by decide) ?_
              have e1 : (jV d false 0 (n + 1)).2.1 = ((jV d false 0 n).2.1 + (jCt (jQ d (jV d false 0 n).1.1 (jSk d false (jV d false 0 n).1.2.1).2).2.1 (d 4))) := rfl
              have e2 : (jV d false 0 (n + 1)).2.2.1 = ((jV d false 0 n).2.2.1 + 1) := by
                show (jV d false 0 n).2.2.1 + (if _ then _ else _) = _
                rw [if_pos (by omega)]
              have e3 : (jV d false 0 (n + 1)).2.2.2 = ((jV d false 0 n).2.2.2 + 1) := by
                show (jV d false 0 n).2.2.2 + (if _ then _ else _) = _
                rw [if_pos (by omega)]
              have hr := ih (n9 - (n + 1)) (by omega) (n + 1) M5 rfl (by omega) hs5 ha5 fx5
              rw [e1, e2, e3] at hr
              exact Ru_weak hr rfl
        · exact absurd rfl h3

theorem c_X1_doDays_f {Q : Rq} {M : Mem} {mk t lw pl : Nat} {d : Td} (hu : X_cu mk t lw pl d M) (hx : X_tm t d M) (wf : Wf d) (wj : Wj d) (hpj : X_pj pl d M) (hlw : X_lw lw d M) (hwl : Wl d) {n9 : Nat} (hn9 : n9 ≤ 99) (k : ∀ M', r_fx [(46, 0), (46, 2), (67, 2), (67, 3), (67, 6), (70, 0), (70, 1), (70, 2)] [47, 48, 69, 71, 72, 73, 74] M M' → X_lv (f_lv (jV d false 0 n9)) M' → Q (some (.int (nI (jV d false 0 n9).1.2.2))) GX M') : Ca 5 mt_X1_doDays 0 0 [.ref 67, .ref t, .ref 46, .int (nI n9), .int (-1)] GX M Q := by
  refine Ca_of rfl (Nat.le_of_ble_eq_true rfl) ?_
  have hb := wf.1
  have ht : isTown t := hu.1.2.2.2
  have hpl : isPlan pl := hu.2.2.2.1
  have hT : t = 3 ∨ t = 83 ∨ t = 111 ∨ t = 139 ∨ t = 167 := ht
  have hP : pl = 26 ∨ pl = 35 ∨ pl = 106 ∨ pl = 134 ∨ pl = 162 ∨ pl = 190 := hpl
  have hlwi : isLaw lw := hu.2.1.2.1
  have hp := pw_le hb.1
  refine Ru_aload_n (pc := 0) dX1_doDays_0 rfl rfl ?_
  refine Ru_aload_n (pc := 1) dX1_doDays_1 rfl rfl ?_
  refine Ru_cv1 (pc := 2) dX1_doDays_2 mv_X1_38 rfl (by decide) (Nat.le_of_ble_eq_true rfl) (c_X1_judgeJobs hu hx wf wj hpj (fun M1 gx1 hw1 => ?_)) 
  have hu1 : X_cu mk t lw pl d M1 := (X_cu_dp mk t lw pl d).kp gx1 rfl hu
  have hx1 : X_tm t d M1 := (X_tm_dp ht d).kp gx1 rfl hx
  have hpj1 : X_pj pl d M1 := (X_pj_dp hpl d).kp gx1 rfl hpj
  have hlw1 : X_lw lw d M1 := (X_lw_dp hlwi d).kp gx1 rfl hlw
  refine Ru_aload_n (pc := 5) dX1_doDays_5 rfl rfl ?_
  refine Ru_getR (pc := 6) 70 dX1_doDays_6 fl_X1_21 rfl rfl (rfX_of (o := 67) (j := 3) rfl rfl) ?_
  refine Ru_iconst (pc := 9) (nI 0) dX1_doDays_9 rfl ?_
  refine Ru_cv1 (pc := 10) dX1_doDays_10 mv_X1_60 rfl (by decide) (Nat.le_of_ble_eq_true rfl) (c_X6_begin_70 (fun M4 gx4 h70 h71 h72 => ?_)) 
  have fx4 : r_fx [(46, 0), (46, 2), (67, 2), (67, 3), (67, 6), (70, 0), (70, 1), (70, 2)] [47, 48, 69, 71, 72, 73, 74] M M4 := (gx1.mono rfl).tr (gx4.mono rfl)
  have hw4 : ∀ j, j < d 4 → M4.1 71 j = nI (jW d j) := fun j hj => (gx4 71 j rfl).1.trans (hw1 j hj)
  have hu4 : X_cu mk t lw pl d M4 := (X_cu_dp mk t lw pl d).kp fx4 rfl hu
  have hx4 : X_tm t d M4 := (X_tm_dp ht d).kp fx4 rfl hx
  have hpj4 : X_pj pl d M4 := (X_pj_dp hpl d).kp fx4 rfl hpj
  have hlw4 : X_lw lw d M4 := (X_lw_dp hlwi d).kp fx4 rfl hlw
  refine Ru_iconst (pc := 13) (nI 0) dX1_doDays_13 rfl ?_
  refine Ru_istore (pc := 14) dX1_doDays_14 rfl (by decide) ?_
  refine Ru_iconst (pc := 16) (nI 0) dX1_doDays_16 rfl ?_
  refine Ru_istore (pc := 17) dX1_doDays_17 rfl (by decide) ?_
  refine Ru_iconst (pc := 19) (nI 0) dX1_doDays_19 rfl ?_
  refine Ru_istore (pc := 20) dX1_doDays_20 rfl (by decide) ?_
  refine Ru_iload (pc := 22) dX1_doDays_22 rfl ?_
  refine Ru_istore (pc := 24) dX1_doDays_24 rfl (by decide) ?_
  refine Ru_iconst (pc := 26) (nI 0) dX1_doDays_26 rfl ?_
  refine Ru_istore (pc := 27) dX1_doDays_27 rfl (by decide) ?_
  refine Ru_weak (l_X1_doDays_f (n9 := n9) hu4 hx4 wf wj hpj4 hlw4 hwl hn9 hw4 (fun M5 h705 h715 gx5 => ?_) n9 0 M4 rfl (Nat.zero_le _) h70 h71 r_fx.rf) rfl
  have fx5 : r_fx [(46, 0), (46, 2), (67, 2), (67, 3), (67, 6), (70, 0), (70, 1), (70, 2)] [47, 48, 69, 71, 72, 73, 74] M M5 := fx4.tr (gx5.mono rfl)
  refine Ru_aload_n (pc := 184) dX1_doDays_184 rfl rfl ?_
  refine Ru_getR (pc := 185) 69 dX1_doDays_185 fl_X1_15 rfl rfl (rfX_of (o := 67) (j := 2) rfl rfl) ?_
  refine Ru_iconst (pc := 188) (nI 0) dX1_doDays_188 rfl ?_
  refine Ru_iload (pc := 189) dX1_doDays_189 rfl ?_
  refine Ru_iast (pc := 191) rfl dX1_doDays_191 rfl (by omega) ?_
  refine Ru_aload_n (pc := 192) dX1_doDays_192 rfl rfl ?_
  refine Ru_getR (pc := 193) 69 dX1_doDays_193 fl_X1_15 rfl rfl (rfX_of (o := 67) (j := 2) rfl rfl) ?_
  refine Ru_iconst (pc := 196) (nI 1) dX1_doDays_196 rfl ?_
  refine Ru_aload_n (pc := 197) dX1_doDays_197 rfl rfl ?_
  refine Ru_getR (pc := 198) 70 dX1_doDays_198 fl_X1_21 rfl rfl (rfX_of (o := 67) (j := 3) rfl rfl) ?_
  refine Ru_getI (pc := 201) dX1_doDays_201 fl_X1_103 rfl rfl ?_
  refine Ru_top ((r_sI_n (by decide)).trans h705) ?_
  refine Ru_iast (pc := 204) rfl dX1_doDays_204 rfl (by omega) ?_
  refine Ru_aload_n (pc := 205) dX1_doDays_205 rfl rfl ?_
  refine Ru_getR (pc := 206) 69 dX1_doDays_206 fl_X1_15 rfl rfl (rfX_of (o := 67) (j := 2) rfl rfl) ?_
  refine Ru_iconst (pc := 209) (nI 2) dX1_doDays_209 rfl ?_
  refine Ru_iload (pc := 210) dX1_doDays_210 rfl ?_
  refine Ru_iast (pc := 212) rfl dX1_doDays_212 rfl (by omega) ?_
  refine Ru_aload_n (pc := 213) dX1_doDays_213 rfl rfl ?_
  refine Ru_getR (pc := 214) 69 dX1_doDays_214 fl_X1_15 rfl rfl (rfX_of (o := 67) (j := 2) rfl rfl) ?_
  refine Ru_iconst (pc := 217) (nI 3) dX1_doDays_217 rfl ?_
  refine Ru_iload (pc := 218) dX1_doDays_218 rfl ?_
  refine Ru_iast (pc := 220) rfl dX1_doDays_220 rfl (by omega) ?_
  refine Ru_aload_n (pc := 221) dX1_doDays_221 rfl rfl ?_
  refine Ru_iconst (pc := 222) (nI 1) dX1_doDays_222 rfl ?_
  refine Ru_putZ (pc := 223) rfl dX1_doDays_223 fl_X1_106 rfl (Or.inr rfl) ?_
  refine Ru_aload_n (pc := 226) dX1_doDays_226 rfl rfl ?_
  refine Ru_getR (pc := 227) 70 dX1_doDays_227 fl_X1_21 rfl rfl (rfX_of (o := 67) (j := 3) rfl rfl) ?_
  refine Ru_getI (pc := 230) dX1_doDays_230 fl_X1_81 rfl rfl ?_
  refine Ru_top ((r_sI_n (by decide)).trans ((r_sI_n (by decide)).trans ((r_sI_n (by decide)).trans ((r_sI_n (by decide)).trans ((r_sI_n (by decide)).trans h715))))) ?_
  refine Ru_iret (pc := 233) dX1_doDays_233 rfl ⟨Nat.le_refl _, Nat.le_refl _⟩ ?_
  refine k _ (r_fx.sI rfl (r_fx.sI rfl (r_fx.sI rfl (r_fx.sI rfl (r_fx.sI rfl fx5))))) ⟨?_, fun _ i hi => ?_⟩
  · exact r_sI_s
  · have h4 : i = 0 ∨ i = 1 ∨ i = 2 ∨ i = 3 := by omega
    rcases h4 with rfl | rfl | rfl | rfl <;> simp [r_sI_g] <;> rfl

theorem l_X1_doDays_i {Q : Rq} {M : Mem} {mk t lw pl : Nat} {d : Td} {n n9 sd z : Nat} (hu : X_cu mk t lw pl d M) (hx : X_tm t d M) (wf : Wf d) (hz : z < 65536) (hsd : sd < 65536) (k : Ru 5 mt_X1_doDays r_z 111 [(0, some (.ref 67)), (1, some (.ref t)), (2, some (.ref 46)), (3, some (.int (nI n9))), (4, some (.int (nI sd))), (5, some (.int (nI (jV d true sd n).2.1))), (6, some (.int (nI (jV d true sd n).2.2.1))), (7, some (.int (nI (jV d true sd n).2.2.2))), (8, some (.int (nI (jDr d z (d 2)).1))), (9, some (.int (nI n))), (10, some (.int (nI (jDr d z (d 2)).2))), (11, some (.int (nI (d 2))))] [] GX M Q) : ∀ (zw : Nat) (p : Nat), d 2 - p = zw → (p ≤ d 2) → Ru 5 mt_X1_doDays r_z 41 [(0, some (.ref 67)), (1, some (.ref t)), (2, some (.ref 46)), (3, some (.int (nI n9))), (4, some (.int (nI sd))), (5, some (.int (nI (jV d true sd n).2.1))), (6, some (.int (nI (jV d true sd n).2.2.1))), (7, some (.int (nI (jV d true sd n).2.2.2))), (8, some (.int (nI (jDr d z p).1))), (9, some (.int (nI n))), (10, some (.int (nI (jDr d z p).2))), (11, some (.int (nI p)))] [] GX M Q := by
  intro zw
  induction zw using Nat.strongRecOn with
  | ind zw ih =>
    intro p hw hn
    subst hw
    have hb := wf.1
    have ht : isTown t := hu.1.2.2.2
    have em : (-1 : Int32).toInt = -1 := rfl
    have hdb := (jDr_b (d := d) hz p).1
    have est := r_tn (show sd < 2147483648 by omega)
    have h6 := wf.2.2.2.2.2.1
    refine Ru_iload (pc := 41) dX1_doDays_41 rfl ?_
    refine Ru_aload_n (pc := 43) dX1_doDays_43 rfl rfl ?_
    refine Ru_getR (pc := 44) (t + 10) dX1_doDays_44 fl_X1_84 (shTown_0 ht) rfl (rfX_of (o := t) (j := 10) (shTown_0 ht) rfl) ?_
    refine Ru_getI (pc := 47) dX1_doDays_47 fl_X1_88 (shNames_0 (isNames_t ht).2.2) rfl ?_
    refine Ru_top hx.1.2.2.1 ?_
    refine Ru_icmp_geN (pc := 50) 111 dX1_doDays_50 (by decide) (by omega) (fun h1 => ?_) (fun h1 => ?_)
    · have en : p = d 2 := by omega
      subst en
      exact Ru_weak k rfl
    · have hbb := wf.2.2.2.2.2.1 p (by omega)
      refine Ru_iload (pc := 53) dX1_doDays_53 rfl ?_
      refine Ru_iconst (pc := 55) (-1) dX1_doDays_55 rfl ?_
      refine Ru_icmp_eqR (pc := 56) 111 dX1_doDays_56 (by decide) (by omega) (fun h2 => ?_) (fun h2 => ?_)
      · exfalso
        rw [em] at h2
        omega
      · refine Ru_iload (pc := 59) dX1_doDays_59 rfl ?_
        refine Ru_sipush (pc := 61) (nI 2333) dX1_doDays_61 rfl ?_
        refine Ru_imulN (pc := 64) dX1_doDays_64 ?_
        refine Ru_sipush (pc := 65) (nI 10007) dX1_doDays_65 rfl ?_
        refine Ru_iaddN (pc := 68) dX1_doDays_68 ?_
        refine Ru_ldc (pc := 69) dX1_doDays_69 tw_1319 ?_
        refine Ru_top (show (65536 : Int32) = nI 65536 from rfl) ?_
        refine Ru_iremN (pc := 71) dX1_doDays_71 (by omega) ?_
        refine Ru_istore (pc := 72) dX1_doDays_72 rfl (by decide) ?_
        refine Ru_iload (pc := 74) dX1_doDays_74 rfl ?_
        refine Ru_iload (pc := 76) dX1_doDays_76 rfl ?_
        refine Ru_bipush (pc := 78) (nI 8) dX1_doDays_78 rfl ?_
        refine Ru_idivN (pc := 80) dX1_doDays_80 (by omega) ?_
        refine Ru_bipush (pc := 81) (nI 16) dX1_doDays_81 rfl ?_
        refine Ru_iremN (pc := 83) dX1_doDays_83 (by omega) ?_
        refine Ru_aload_n (pc := 84) dX1_doDays_84 rfl rfl ?_
        refine Ru_getR (pc := 85) (t + 13) dX1_doDays_85 fl_X1_94 (shTown_0 ht) rfl (rfX_of (o := t) (j := 13) (shTown_0 ht) rfl) ?_
        refine Ru_iload (pc := 88) dX1_doDays_88 rfl ?_
        refine Ru_iald (pc := 90) dX1_doDays_90 (shTown_13 ht) (by omega) ?_
        refine Ru_top (hx.2.2.2.1 p (by omega)).2 ?_
        refine Ru_icmp_geN (pc := 91) 101 dX1_doDays_91 (by decide) (by omega) (fun h3 => ?_) (fun h3 => ?_)
        · refine Ru_iconst (pc := 101) (nI 0) dX1_doDays_101 rfl ?_
          refine Ru_iorN (pc := 102) dX1_doDays_102 ?_
          refine Ru_istore (pc := 103) dX1_doDays_103 rfl (by decide) ?_
          refine Ru_iincN (pc := 105) 1 dX1_doDays_105 rfl rfl rfl (by decide) ?_
          refine Ru_goto (pc := 108) 41 dX1_doDays_108 (by decide) ?_
          have e1 : (jDr d z (p + 1)).1 = ((((jDr d z p).1 * 2333) + 10007) % 65536) := rfl
          have e2 : (jDr d z (p + 1)).2 = ((jDr d z p).2 ||| 0) := by
            rw [jDr_n]
            show (if _ then _ else _) = _
            rw [if_neg (show ¬ (jDw (jDr d z p).1 / 8 % 16 < d (101 + p)) by unfold jDw; omega)]
            exact (Nat.or_zero _).symm
          have hr := ih (d 2 - (p + 1)) (by omega) (p + 1) rfl (by omega)
          rw [e1, e2] at hr
          exact Ru_weak hr rfl
        · refine Ru_iconst (pc := 94) (nI 1) dX1_doDays_94 rfl ?_
          refine Ru_iload (pc := 95) dX1_doDays_95 rfl ?_
          refine Ru_ishl1N (pc := 97) dX1_doDays_97 (by omega) ?_
          refine Ru_goto (pc := 98) 102 dX1_doDays_98 (by decide) ?_
          refine Ru_iorN (pc := 102) dX1_doDays_102 ?_
          refine Ru_istore (pc := 103) dX1_doDays_103 rfl (by decide) ?_
          refine Ru_iincN (pc := 105) 1 dX1_doDays_105 rfl rfl rfl (by decide) ?_
          refine Ru_goto (pc := 108) 41 dX1_doDays_108 (by decide) ?_
          have e1 : (jDr d z (p + 1)).1 = ((((jDr d z p).1 * 2333) + 10007) % 65536) := rfl
          have e2 : (jDr d z (p + 1)).2 = ((jDr d z p).2 ||| (2 ^ p)) := by
            rw [jDr_n]
            show (if _ then _ else _) = _
            rw [if_pos (show (jDw (jDr d z p).1 / 8 % 16 < d (101 + p)) by unfold jDw; omega)]
          have hr := ih (d 2 - (p + 1)) (by omega) (p + 1) rfl (by omega)
          rw [e1, e2] at hr
          exact Ru_weak hr rfl

theorem l_X1_doDays_t {Q : Rq} {M0 : Mem} {mk t lw pl : Nat} {d : Td} (hu0 : X_cu mk t lw pl d M0) (hx0 : X_tm t d M0) (wf : Wf d) (wj : Wj d) (hpj0 : X_pj pl d M0) (hlw0 : X_lw lw d M0) (hwl : Wl d) {n9 sd : Nat} (hn9 : n9 ≤ 99) (hsd : sd < 65536) (hwy0 : ∀ j, j < d 4 → M0.1 71 j = nI (jW d j)) (k : ∀ M, M.1 70 0 = nI (jV d true sd n9).1.1 → M.1 70 1 = nI (jV d true sd n9).1.2.2 → r_fx [(46, 0), (46, 2), (67, 2), (67, 3), (70, 0), (70, 1), (70, 2)] [47, 48, 72, 73, 74] M0 M → Ru 5 mt_X1_doDays r_z 184 [(0, some (.ref 67)), (1, some (.ref t)), (2, some (.ref 46)), (3, some (.int (nI n9))), (4, some (.int (nI sd))), (5, some (.int (nI (jV d true sd n9).2.1))), (6, some (.int (nI (jV d true sd n9).2.2.1))), (7, some (.int (nI (jV d true sd n9).2.2.2))), (8, some (.int (nI (jV d true sd n9).1.2.1))), (9, some (.int (nI n9)))] [] GX M Q) : ∀ (zw : Nat) (n : Nat) (M : Mem), n9 - n = zw → (n ≤ n9) → (M.1 70 0 = nI (jV d true sd n).1.1) → (M.1 70 1 = nI (jV d true sd n).1.2.2) → (r_fx [(46, 0), (46, 2), (67, 2), (67, 3), (70, 0), (70, 1), (70, 2)] [47, 48, 72, 73, 74] M0 M) → Ru 5 mt_X1_doDays r_z 29 [(0, some (.ref 67)), (1, some (.ref t)), (2, some (.ref 46)), (3, some (.int (nI n9))), (4, some (.int (nI sd))), (5, some (.int (nI (jV d true sd n).2.1))), (6, some (.int (nI (jV d true sd n).2.2.1))), (7, some (.int (nI (jV d true sd n).2.2.2))), (8, some (.int (nI (jV d true sd n).1.2.1))), (9, some (.int (nI n)))] [] GX M Q := by
  intro zw
  induction zw using Nat.strongRecOn with
  | ind zw ih =>
    intro n M hw hn h70 h71 fx
    subst hw
    have hb := wf.1
    have ht : isTown t := hu0.1.2.2.2
    have hpl : isPlan pl := hu0.2.2.2.1
    have hlwi : isLaw lw := hu0.2.1.2.1
    have hu : X_cu mk t lw pl d M := (X_cu_dp mk t lw pl d).kp fx rfl hu0
    have hx : X_tm t d M := (X_tm_dp ht d).kp fx rfl hx0
    have hvb := jV_b (d := d) wf (il := true) (s := sd) (by omega) n
    refine Ru_iload (pc := 29) dX1_doDays_29 rfl ?_
    refine Ru_iload_n (pc := 31) dX1_doDays_31 rfl rfl ?_
    refine Ru_icmp_geN (pc := 32) 184 dX1_doDays_32 (by decide) (by omega) (fun h1 => ?_) (fun h1 => ?_)
    · have en : n = n9 := by omega
      subst en
      exact Ru_weak (k M h70 h71 fx) rfl
    · refine Ru_iconst (pc := 35) (nI 0) dX1_doDays_35 rfl ?_
      refine Ru_istore (pc := 36) dX1_doDays_36 rfl (by decide) ?_
      refine Ru_iconst (pc := 38) (nI 0) dX1_doDays_38 rfl ?_
      refine Ru_istore (pc := 39) dX1_doDays_39 rfl (by decide) ?_
      refine Ru_weak (l_X1_doDays_i (n := n) (n9 := n9) (sd := sd) (z := (jV d true sd n).1.2.1) hu hx wf hvb.2 (by omega) ?_ (d 2) 0 rfl (Nat.zero_le _)) rfl
      have eS : jSk d true (jV d true sd n).1.2.1 = jDr d (jV d true sd n).1.2.1 (d 2) := rfl
      rw [← eS]
      refine Ru_weak (L' := [(0, some (.ref 67)), (1, some (.ref t)), (2, some (.ref 46)), (3, some (.int (nI n9))), (4, some (.int (nI sd))), (5, some (.int (nI (jV d true sd n).2.1))), (6, some (.int (nI (jV d true sd n).2.2.1))), (7, some (.int (nI (jV d true sd n).2.2.2))), (8, some (.int (nI (jSk d true (jV d true sd n).1.2.1).1))), (9, some (.int (nI n))), (10, some (.int (nI (jSk d true (jV d true sd n).1.2.1).2))), (11, some (.int (nI (d 2))))]) ?_ rfl
      refine Ru_aload_n (pc := 111) dX1_doDays_111 rfl rfl ?_
      refine Ru_getR (pc := 112) 70 dX1_doDays_112 fl_X1_21 rfl rfl (rfX_of (o := 67) (j := 3) rfl rfl) ?_
      refine Ru_iconst (pc := 115) (nI 0) dX1_doDays_115 rfl ?_
      refine Ru_putI (pc := 116) rfl dX1_doDays_116 fl_X1_97 rfl ?_
      refine Ru_iload (pc := 119) dX1_doDays_119 rfl ?_
      refine Ru_aload_n (pc := 121) dX1_doDays_121 rfl rfl ?_
      refine Ru_aload_n (pc := 122) dX1_doDays_122 rfl rfl ?_
      refine Ru_aload_n (pc := 123) dX1_doDays_123 rfl rfl ?_
      refine Ru_iload (pc := 124) dX1_doDays_124 rfl ?_
      refine Ru_iload (pc := 126) dX1_doDays_126 rfl ?_
      have hM4 : ∃ M4, M4 = r_sI M 70 2 (nI 0) := ⟨_, rfl⟩
      obtain ⟨M4, e4⟩ := hM4
      rw [← e4]
      have gx4 : r_fx [(70, 2)] [] M M4 := by
        rw [e4]
        exact r_fx.sI rfl r_fx.rf
      have h704 : M4.1 70 0 = nI (jV d true sd n).1.1 := (gx4 70 0 rfl).1.trans h70
      have h714 : M4.1 70 1 = nI (jV d true sd n).1.2.2 := (gx4 70 1 rfl).1.trans h71
      have h724 : M4.1 70 2 = nI 0 := by
        rw [e4]
        exact r_sI_s
      have fx4 : r_fx [(46, 0), (46, 2), (67, 2), (67, 3), (70, 0), (70, 1), (70, 2)] [47, 48, 72, 73, 74] M0 M4 := fx.tr (gx4.mono rfl)
      have hu4 : X_cu mk t lw pl d M4 := (X_cu_dp mk t lw pl d).kp fx4 rfl hu0
      have hx4 : X_tm t d M4 := (X_tm_dp ht d).kp fx4 rfl hx0
      have hpj4 : X_pj pl d M4 := (X_pj_dp hpl d).kp fx4 rfl hpj0
      have hlw4 : X_lw lw d M4 := (X_lw_dp hlwi d).kp fx4 rfl hlw0
      have hwy4 : ∀ j, j < d 4 → M4.1 71 j = nI (jW d j) := fun j hj => (fx4 71 j rfl).1.trans (hwy0 j hj)
      refine Ru_cv4 (pc := 128) dX1_doDays_128 mv_X1_64 rfl (by decide) (Nat.le_of_ble_eq_true rfl) (c_X1_live (y := n) (s := (jV d true sd n).1.1) (ill := (jSk d true (jV d true sd n).1.2.1).2) (W0 := (jV d true sd n).1.2.2) (H0 := 0) hu4 hx4 wf wj hpj4 hlw4 hwl (by omega) hvb.1 (jSk_b wf hvb.2) hwy4 h704 h714 h724 (fun M5 gx5 hs5 ha5 hb5 hl5 hl6 hsn5 => ?_)) 
      have fx5 : r_fx [(46, 0), (46, 2), (67, 2), (67, 3), (70, 0), (70, 1), (70, 2)] [47, 48, 72, 73, 74] M0 M5 := fx4.tr (gx5.mono rfl)
      rw [Nat.zero_add] at hb5
      have hu5 : X_cu mk t lw pl d M5 := (X_cu_dp mk t lw pl d).kp fx5 rfl hu0
      have hx5 : X_tm t d M5 := (X_tm_dp ht d).kp fx5 rfl hx0
      have hhb := jX_had wf (jV d true sd n).1.1 (jSk d true (jV d true sd n).1.2.1).2
      refine Ru_iaddN (pc := 131) dX1_doDays_131 ?_
      refine Ru_istore (pc := 132) dX1_doDays_132 rfl (by decide) ?_
      refine Ru_iload (pc := 134) dX1_doDays_134 rfl ?_
      refine Ru_aload_n (pc := 136) dX1_doDays_136 rfl rfl ?_
      refine Ru_getR (pc := 137) 70 dX1_doDays_137 fl_X1_21 rfl rfl (rfX_of (o := 67) (j := 3) rfl rfl) ?_
      refine Ru_getI (pc := 140) dX1_doDays_140 fl_X1_97 rfl rfl ?_
      refine Ru_top hb5 ?_
      refine Ru_aload_n (pc := 143) dX1_doDays_143 rfl rfl ?_
      refine Ru_getI (pc := 144) dX1_doDays_144 fl_X1_100 (shTown_0 ht) rfl ?_
      refine Ru_top hx5.1.2.2.2 ?_
      refine Ru_icmp_neN (pc := 147) 154 dX1_doDays_147 (by decide) ⟨by omega, by omega⟩ (fun h1 => ?_) (fun h1 => ?_)
      · refine Ru_iconst (pc := 154) (nI 0) dX1_doDays_154 rfl ?_
        refine Ru_iaddN (pc := 155) dX1_doDays_155 ?_
        refine Ru_istore (pc := 156) dX1_doDays_156 rfl (by decide) ?_
        refine Ru_iload (pc := 158) dX1_doDays_158 rfl ?_
        refine Ru_aload_n (pc := 160) dX1_doDays_160 rfl rfl ?_
        refine Ru_getR (pc := 161) 70 dX1_doDays_161 fl_X1_21 rfl rfl (rfX_of (o := 67) (j := 3) rfl rfl) ?_
        refine Ru_getI (pc := 164) dX1_doDays_164 fl_X1_97 rfl rfl ?_
        refine Ru_top hb5 ?_
        refine Ru_if_neN (pc := 167) 174 dX1_doDays_167 (by decide) (by omega) (fun h2 => ?_) (fun h2 => ?_)
        · refine Ru_iconst (pc := 174) (nI 0) dX1_doDays_174 rfl ?_
          refine Ru_iaddN (pc := 175) dX1_doDays_175 ?_
          refine Ru_istore (pc := 176) dX1_doDays_176 rfl (by decide) ?_
          refine Ru_iincN (pc := 178) 1 dX1_doDays_178 rfl rfl rfl (by decide) ?_
          refine Ru_goto (pc := 181) 29 dX1_doDays_181 (by decide) ?_
          have e1 : (jV d true sd (n + 1)).2.1 = ((jV d true sd n).2.1 + (jCt (jQ d (jV d true sd n).1.1 (jSk d true (jV d true sd n).1.2.1).2).2.1 (d 4))) := rfl
          have e2 : (jV d true sd (n + 1)).2.2.1 = ((jV d true sd n).2.2.1 + 0) := by
            show (jV d true sd n).2.2.1 + (if _ then _ else _) = _
            rw [if_neg (by omega)]
          have e3 : (jV d true sd (n + 1)).2.2.2 = ((jV d true sd n).2.2.2 + 0) := by
            show (jV d true sd n).2.2.2 + (if _ then _ else _) = _
            rw [if_neg (by omega)]
          have e4 : (jV d true sd (n + 1)).1.2.1 = (jSk d true (jV d true sd n).1.2.1).1 := rfl
          have hr := ih (n9 - (n + 1)) (by omega) (n + 1) M5 rfl (by omega) hs5 ha5 fx5
          rw [e1, e2, e3, e4] at hr
          exact Ru_weak hr rfl
        · refine Ru_iconst (pc := 170) (nI 1) dX1_doDays_170 rfl ?_
          refine Ru_goto (pc := 171) 175 dX1_doDays_171 (by decide) ?_
          refine Ru_iaddN (pc := 175) dX1_doDays_175 ?_
          refine Ru_istore (pc := 176) dX1_doDays_176 rfl (by decide) ?_
          refine Ru_iincN (pc := 178) 1 dX1_doDays_178 rfl rfl rfl (by decide) ?_
          refine Ru_goto (pc := 181) 29 dX1_doDays_181 (by decide) ?_
          have e1 : (jV d true sd (n + 1)).2.1 = ((jV d true sd n).2.1 + (jCt (jQ d (jV d true sd n).1.1 (jSk d true (jV d true sd n).1.2.1).2).2.1 (d 4))) := rfl
          have e2 : (jV d true sd (n + 1)).2.2.1 = ((jV d true sd n).2.2.1 + 0) := by
            show (jV d true sd n).2.2.1 + (if _ then _ else _) = _
            rw [if_neg (by omega)]
          have e3 : (jV d true sd (n + 1)).2.2.2 = ((jV d true sd n).2.2.2 + 1) := by
            show (jV d true sd n).2.2.2 + (if _ then _ else _) = _
            rw [if_pos (by omega)]
          have e4 : (jV d true sd (n + 1)).1.2.1 = (jSk d true (jV d true sd n).1.2.1).1 := rfl
          have hr := ih (n9 - (n + 1)) (by omega) (n + 1) M5 rfl (by omega) hs5 ha5 fx5
          rw [e1, e2, e3, e4] at hr
          exact Ru_weak hr rfl
      · refine Ru_iconst (pc := 150) (nI 1) dX1_doDays_150 rfl ?_
        refine Ru_goto (pc := 151) 155 dX1_doDays_151 (by decide) ?_
        refine Ru_iaddN (pc := 155) dX1_doDays_155 ?_
        refine Ru_istore (pc := 156) dX1_doDays_156 rfl (by decide) ?_
        refine Ru_iload (pc := 158) dX1_doDays_158 rfl ?_
        refine Ru_aload_n (pc := 160) dX1_doDays_160 rfl rfl ?_
        refine Ru_getR (pc := 161) 70 dX1_doDays_161 fl_X1_21 rfl rfl (rfX_of (o := 67) (j := 3) rfl rfl) ?_
        refine Ru_getI (pc := 164) dX1_doDays_164 fl_X1_97 rfl rfl ?_
        refine Ru_top hb5 ?_
        refine Ru_if_neN (pc := 167) 174 dX1_doDays_167 (by decide) (by omega) (fun h3 => ?_) (fun h3 => ?_)
        · refine Ru_iconst (pc := 174) (nI 0) dX1_doDays_174 rfl ?_
          refine Ru_iaddN (pc := 175) dX1_doDays_175 ?_
          refine Ru_istore (pc := 176) dX1_doDays_176 rfl (by decide) ?_
          refine Ru_iincN (pc := 178) 1 dX1_doDays_178 rfl rfl rfl (by decide) ?_
          refine Ru_goto (pc := 181) 29 dX1_doDays_181 (by decide) ?_
          have e1 : (jV d true sd (n + 1)).2.1 = ((jV d true sd n).2.1 + (jCt (jQ d (jV d true sd n).1.1 (jSk d true (jV d true sd n).1.2.1).2).2.1 (d 4))) := rfl
          have e2 : (jV d true sd (n + 1)).2.2.1 = ((jV d true sd n).2.2.1 + 1) := by
            show (jV d true sd n).2.2.1 + (if _ then _ else _) = _
            rw [if_pos (by omega)]
          have e3 : (jV d true sd (n + 1)).2.2.2 = ((jV d true sd n).2.2.2 + 0) := by
            show (jV d true sd n).2.2.2 + (if _ then _ else _) = _
            rw [if_neg (by omega)]
          have e4 : (jV d true sd (n + 1)).1.2.1 = (jSk d true (jV d true sd n).1.2.1).1 := rfl
          have hr := ih (n9 - (n + 1)) (by omega) (n + 1) M5 rfl (by omega) hs5 ha5 fx5
          rw [e1, e2, e3, e4] at hr
          exact Ru_weak hr rfl
        · refine Ru_iconst (pc := 170) (nI 1) dX1_doDays_170 rfl ?_
          refine Ru_goto (pc := 171) 175 dX1_doDays_171 (by decide) ?_
          refine Ru_iaddN (pc := 175) dX1_doDays_175 ?_
          refine Ru_istore (pc := 176) dX1_doDays_176 rfl (by decide) ?_
          refine Ru_iincN (pc := 178) 1 dX1_doDays_178 rfl rfl rfl (by decide) ?_
          refine Ru_goto (pc := 181) 29 dX1_doDays_181 (by decide) ?_
          have e1 : (jV d true sd (n + 1)).2.1 = ((jV d true sd n).2.1 + (jCt (jQ d (jV d true sd n).1.1 (jSk d true (jV d true sd n).1.2.1).2).2.1 (d 4))) := rfl
          have e2 : (jV d true sd (n + 1)).2.2.1 = ((jV d true sd n).2.2.1 + 1) := by
            show (jV d true sd n).2.2.1 + (if _ then _ else _) = _
            rw [if_pos (by omega)]
          have e3 : (jV d true sd (n + 1)).2.2.2 = ((jV d true sd n).2.2.2 + 1) := by
            show (jV d true sd n).2.2.2 + (if _ then _ else _) = _
            rw [if_pos (by omega)]
          have e4 : (jV d true sd (n + 1)).1.2.1 = (jSk d true (jV d true sd n).1.2.1).1 := rfl
          have hr := ih (n9 - (n + 1)) (by omega) (n + 1) M5 rfl (by omega) hs5 ha5 fx5
          rw [e1, e2, e3, e4] at hr
          exact Ru_weak hr rfl

theorem c_X1_doDays_t {Q : Rq} {M : Mem} {mk t lw pl : Nat} {d : Td} (hu : X_cu mk t lw pl d M) (hx : X_tm t d M) (wf : Wf d) (wj : Wj d) (hpj : X_pj pl d M) (hlw : X_lw lw d M) (hwl : Wl d) {n9 sd : Nat} (hn9 : n9 ≤ 99) (hsd : sd ≤ 9999) (k : ∀ M', r_fx [(46, 0), (46, 2), (67, 2), (67, 3), (67, 6), (70, 0), (70, 1), (70, 2)] [47, 48, 69, 71, 72, 73, 74] M M' → X_lv (f_lv (jV d true sd n9)) M' → Q (some (.int (nI (jV d true sd n9).1.2.2))) GX M') : Ca 5 mt_X1_doDays 0 0 [.ref 67, .ref t, .ref 46, .int (nI n9), .int (nI sd)] GX M Q := by
  refine Ca_of rfl (Nat.le_of_ble_eq_true rfl) ?_
  have hb := wf.1
  have ht : isTown t := hu.1.2.2.2
  have hpl : isPlan pl := hu.2.2.2.1
  have hT : t = 3 ∨ t = 83 ∨ t = 111 ∨ t = 139 ∨ t = 167 := ht
  have hP : pl = 26 ∨ pl = 35 ∨ pl = 106 ∨ pl = 134 ∨ pl = 162 ∨ pl = 190 := hpl
  have hlwi : isLaw lw := hu.2.1.2.1
  have hp := pw_le hb.1
  refine Ru_aload_n (pc := 0) dX1_doDays_0 rfl rfl ?_
  refine Ru_aload_n (pc := 1) dX1_doDays_1 rfl rfl ?_
  refine Ru_cv1 (pc := 2) dX1_doDays_2 mv_X1_38 rfl (by decide) (Nat.le_of_ble_eq_true rfl) (c_X1_judgeJobs hu hx wf wj hpj (fun M1 gx1 hw1 => ?_)) 
  have hu1 : X_cu mk t lw pl d M1 := (X_cu_dp mk t lw pl d).kp gx1 rfl hu
  have hx1 : X_tm t d M1 := (X_tm_dp ht d).kp gx1 rfl hx
  have hpj1 : X_pj pl d M1 := (X_pj_dp hpl d).kp gx1 rfl hpj
  have hlw1 : X_lw lw d M1 := (X_lw_dp hlwi d).kp gx1 rfl hlw
  refine Ru_aload_n (pc := 5) dX1_doDays_5 rfl rfl ?_
  refine Ru_getR (pc := 6) 70 dX1_doDays_6 fl_X1_21 rfl rfl (rfX_of (o := 67) (j := 3) rfl rfl) ?_
  refine Ru_iconst (pc := 9) (nI 0) dX1_doDays_9 rfl ?_
  refine Ru_cv1 (pc := 10) dX1_doDays_10 mv_X1_60 rfl (by decide) (Nat.le_of_ble_eq_true rfl) (c_X6_begin_70 (fun M4 gx4 h70 h71 h72 => ?_)) 
  have fx4 : r_fx [(46, 0), (46, 2), (67, 2), (67, 3), (67, 6), (70, 0), (70, 1), (70, 2)] [47, 48, 69, 71, 72, 73, 74] M M4 := (gx1.mono rfl).tr (gx4.mono rfl)
  have hw4 : ∀ j, j < d 4 → M4.1 71 j = nI (jW d j) := fun j hj => (gx4 71 j rfl).1.trans (hw1 j hj)
  have hu4 : X_cu mk t lw pl d M4 := (X_cu_dp mk t lw pl d).kp fx4 rfl hu
  have hx4 : X_tm t d M4 := (X_tm_dp ht d).kp fx4 rfl hx
  have hpj4 : X_pj pl d M4 := (X_pj_dp hpl d).kp fx4 rfl hpj
  have hlw4 : X_lw lw d M4 := (X_lw_dp hlwi d).kp fx4 rfl hlw
  refine Ru_iconst (pc := 13) (nI 0) dX1_doDays_13 rfl ?_
  refine Ru_istore (pc := 14) dX1_doDays_14 rfl (by decide) ?_
  refine Ru_iconst (pc := 16) (nI 0) dX1_doDays_16 rfl ?_
  refine Ru_istore (pc := 17) dX1_doDays_17 rfl (by decide) ?_
  refine Ru_iconst (pc := 19) (nI 0) dX1_doDays_19 rfl ?_
  refine Ru_istore (pc := 20) dX1_doDays_20 rfl (by decide) ?_
  refine Ru_iload (pc := 22) dX1_doDays_22 rfl ?_
  refine Ru_istore (pc := 24) dX1_doDays_24 rfl (by decide) ?_
  refine Ru_iconst (pc := 26) (nI 0) dX1_doDays_26 rfl ?_
  refine Ru_istore (pc := 27) dX1_doDays_27 rfl (by decide) ?_
  refine Ru_weak (l_X1_doDays_t (n9 := n9) (sd := sd) hu4 hx4 wf wj hpj4 hlw4 hwl hn9 (by omega) hw4 (fun M5 h705 h715 gx5 => ?_) n9 0 M4 rfl (Nat.zero_le _) h70 h71 r_fx.rf) rfl
  have fx5 : r_fx [(46, 0), (46, 2), (67, 2), (67, 3), (67, 6), (70, 0), (70, 1), (70, 2)] [47, 48, 69, 71, 72, 73, 74] M M5 := fx4.tr (gx5.mono rfl)
  refine Ru_aload_n (pc := 184) dX1_doDays_184 rfl rfl ?_
  refine Ru_getR (pc := 185) 69 dX1_doDays_185 fl_X1_15 rfl rfl (rfX_of (o := 67) (j := 2) rfl rfl) ?_
  refine Ru_iconst (pc := 188) (nI 0) dX1_doDays_188 rfl ?_
  refine Ru_iload (pc := 189) dX1_doDays_189 rfl ?_
  refine Ru_iast (pc := 191) rfl dX1_doDays_191 rfl (by omega) ?_
  refine Ru_aload_n (pc := 192) dX1_doDays_192 rfl rfl ?_
  refine Ru_getR (pc := 193) 69 dX1_doDays_193 fl_X1_15 rfl rfl (rfX_of (o := 67) (j := 2) rfl rfl) ?_
  refine Ru_iconst (pc := 196) (nI 1) dX1_doDays_196 rfl ?_
  refine Ru_aload_n (pc := 197) dX1_doDays_197 rfl rfl ?_
  refine Ru_getR (pc := 198) 70 dX1_doDays_198 fl_X1_21 rfl rfl (rfX_of (o := 67) (j := 3) rfl rfl) ?_
  refine Ru_getI (pc := 201) dX1_doDays_201 fl_X1_103 rfl rfl ?_
  refine Ru_top ((r_sI_n (by decide)).trans h705) ?_
  refine Ru_iast (pc := 204) rfl dX1_doDays_204 rfl (by omega) ?_
  refine Ru_aload_n (pc := 205) dX1_doDays_205 rfl rfl ?_
  refine Ru_getR (pc := 206) 69 dX1_doDays_206 fl_X1_15 rfl rfl (rfX_of (o := 67) (j := 2) rfl rfl) ?_
  refine Ru_iconst (pc := 209) (nI 2) dX1_doDays_209 rfl ?_
  refine Ru_iload (pc := 210) dX1_doDays_210 rfl ?_
  refine Ru_iast (pc := 212) rfl dX1_doDays_212 rfl (by omega) ?_
  refine Ru_aload_n (pc := 213) dX1_doDays_213 rfl rfl ?_
  refine Ru_getR (pc := 214) 69 dX1_doDays_214 fl_X1_15 rfl rfl (rfX_of (o := 67) (j := 2) rfl rfl) ?_
  refine Ru_iconst (pc := 217) (nI 3) dX1_doDays_217 rfl ?_
  refine Ru_iload (pc := 218) dX1_doDays_218 rfl ?_
  refine Ru_iast (pc := 220) rfl dX1_doDays_220 rfl (by omega) ?_
  refine Ru_aload_n (pc := 221) dX1_doDays_221 rfl rfl ?_
  refine Ru_iconst (pc := 222) (nI 1) dX1_doDays_222 rfl ?_
  refine Ru_putZ (pc := 223) rfl dX1_doDays_223 fl_X1_106 rfl (Or.inr rfl) ?_
  refine Ru_aload_n (pc := 226) dX1_doDays_226 rfl rfl ?_
  refine Ru_getR (pc := 227) 70 dX1_doDays_227 fl_X1_21 rfl rfl (rfX_of (o := 67) (j := 3) rfl rfl) ?_
  refine Ru_getI (pc := 230) dX1_doDays_230 fl_X1_81 rfl rfl ?_
  refine Ru_top ((r_sI_n (by decide)).trans ((r_sI_n (by decide)).trans ((r_sI_n (by decide)).trans ((r_sI_n (by decide)).trans ((r_sI_n (by decide)).trans h715))))) ?_
  refine Ru_iret (pc := 233) dX1_doDays_233 rfl ⟨Nat.le_refl _, Nat.le_refl _⟩ ?_
  refine k _ (r_fx.sI rfl (r_fx.sI rfl (r_fx.sI rfl (r_fx.sI rfl (r_fx.sI rfl fx5))))) ⟨?_, fun _ i hi => ?_⟩
  · exact r_sI_s
  · have h4 : i = 0 ∨ i = 1 ∨ i = 2 ∨ i = 3 := by omega
    rcases h4 with rfl | rfl | rfl | rfl <;> simp [r_sI_g] <;> rfl
