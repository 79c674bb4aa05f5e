-- LABOUR: the developers' own

theorem c_X0_made {Q : Rq} {M : Mem} {t m s : Nat} {d : Td} (ht : isTown t) (hx : X_tm t d M) (wf : Wf d) (htw : M.2.2 55 0 = some t) (hm : m < d 1) (k : Q (some (.int (nI (lMade d m s)))) GX M) : Ca 0 mt_X0_made 0 0 [.ref 55, .int (nI m), .int (nI s)] GX M Q := by
  refine Ca_of rfl (Nat.le_of_ble_eq_true rfl) ?_
  have hb := wf.1
  have hm5 := wf.2.2.2.2.1 m hm
  refine Ru_iload_n (pc := 0) dX0_made_0 rfl rfl ?_
  refine Ru_aload_n (pc := 1) dX0_made_1 rfl rfl ?_
  refine Ru_getR (pc := 2) t dX0_made_2 fl_X0_50 rfl rfl ((rfX_mut rfl rfl).trans htw) ?_
  refine Ru_getR (pc := 5) (t + 8) dX0_made_5 fl_X0_146 (shTown_0 ht) rfl (rfX_of (o := t) (j := 8) (shTown_0 ht) rfl) ?_
  refine Ru_iload_n (pc := 8) dX0_made_8 rfl rfl ?_
  refine Ru_iald (pc := 9) dX0_made_9 (shTown_8 ht) (by omega) ?_
  refine Ru_top (hx.2.2.1 m (by omega)).2.2.2.1 ?_
  refine Ru_iconst (pc := 10) (-1) dX0_made_10 rfl ?_
  refine Ru_ixor (pc := 11) dX0_made_11 ?_
  refine Ru_idifN (pc := 12) dX0_made_12 ?_
  refine Ru_iconst (pc := 13) (nI 1) dX0_made_13 rfl ?_
  refine Ru_aload_n (pc := 14) dX0_made_14 rfl rfl ?_
  refine Ru_getR (pc := 15) t dX0_made_15 fl_X0_50 rfl rfl ((rfX_mut rfl rfl).trans htw) ?_
  refine Ru_getR (pc := 18) (t + 5) dX0_made_18 fl_X0_149 (shTown_0 ht) rfl (rfX_of (o := t) (j := 5) (shTown_0 ht) rfl) ?_
  refine Ru_iload_n (pc := 21) dX0_made_21 rfl rfl ?_
  refine Ru_iald (pc := 22) dX0_made_22 (shTown_5 ht) (by omega) ?_
  refine Ru_top (hx.2.2.1 m (by omega)).1 ?_
  refine Ru_ishl1N (pc := 23) dX0_made_23 (by omega) ?_
  refine Ru_iorN (pc := 24) dX0_made_24 ?_
  refine Ru_iret (pc := 25) dX0_made_25 rfl ⟨Nat.le_refl _, Nat.le_refl _⟩ ?_
  exact k

theorem c_X0_shorten {Q : Rq} {M : Mem} {q v : Nat} {L : Nat → Nat} (hL : ∀ k, k < 256 → M.1 65 k = nM (L k)) (hB : ∀ k, L k ≤ 100000) (hq : q < 256) (hv : v < 100000) (k : ∀ M', (∀ k, k < 256 → M'.1 65 k = nM (if k = q ∧ (L k = 0 ∨ v + 1 < L k) then v + 1 else L k)) → r_fx [] [65] M M' → Q none GX M') : Ca 0 mt_X0_shorten 0 0 [.ref 55, .int (nI q), .int (nI v)] GX M Q := by
  refine Ca_of rfl (Nat.le_of_ble_eq_true rfl) ?_
  have em : (-1 : Int32).toInt = -1 := rfl
  have hbq := hB q
  have hz : (nM (L q)).toInt = (L q : Int) - 1 := nM_t (by omega)
  refine Ru_aload_n (pc := 0) dX0_shorten_0 rfl rfl ?_
  refine Ru_getR (pc := 1) 65 dX0_shorten_1 fl_X0_43 rfl rfl (rfX_of (o := 55) (j := 10) rfl rfl) ?_
  refine Ru_iload_n (pc := 4) dX0_shorten_4 rfl rfl ?_
  refine Ru_iald (pc := 5) dX0_shorten_5 rfl (by omega) ?_
  refine Ru_top (hL q (by omega)) ?_
  refine Ru_iconst (pc := 6) (-1) dX0_shorten_6 rfl ?_
  refine Ru_icmp_eqT (pc := 7) 20 dX0_shorten_7 (by decide) (fun h1 => ?_) (fun h1 => ?_)
  · refine Ru_aload_n (pc := 20) dX0_shorten_20 rfl rfl ?_
    refine Ru_getR (pc := 21) 65 dX0_shorten_21 fl_X0_43 rfl rfl (rfX_of (o := 55) (j := 10) rfl rfl) ?_
    refine Ru_iload_n (pc := 24) dX0_shorten_24 rfl rfl ?_
    refine Ru_iload_n (pc := 25) dX0_shorten_25 rfl rfl ?_
    refine Ru_iast (pc := 26) rfl dX0_shorten_26 rfl (by omega) ?_
    refine Ru_vret (pc := 27) dX0_shorten_27 rfl ⟨Nat.le_refl _, Nat.le_refl _⟩ ?_
    refine k _ (r_upd hL (fun _ => by rw [if_pos ⟨rfl, by omega⟩]; rfl) (fun j _ hj => by rw [if_neg (fun z => hj z.1)])) (r_fx.sI rfl r_fx.rf)
  · refine Ru_aload_n (pc := 10) dX0_shorten_10 rfl rfl ?_
    refine Ru_getR (pc := 11) 65 dX0_shorten_11 fl_X0_43 rfl rfl (rfX_of (o := 55) (j := 10) rfl rfl) ?_
    refine Ru_iload_n (pc := 14) dX0_shorten_14 rfl rfl ?_
    refine Ru_iald (pc := 15) dX0_shorten_15 rfl (by omega) ?_
    refine Ru_top (hL q (by omega)) ?_
    refine Ru_iload_n (pc := 16) dX0_shorten_16 rfl rfl ?_
    refine Ru_icmp_leL (pc := 17) 27 dX0_shorten_17 (by decide) (by omega) (fun h2 => ?_) (fun h2 => ?_)
    · refine Ru_vret (pc := 27) dX0_shorten_27 rfl ⟨Nat.le_refl _, Nat.le_refl _⟩ ?_
      refine k _ (fun j hj => ?_) r_fx.rf
      rw [hL j hj, if_neg]
      rintro ⟨z1, z2⟩
      subst z1
      omega
    · refine Ru_aload_n (pc := 20) dX0_shorten_20 rfl rfl ?_
      refine Ru_getR (pc := 21) 65 dX0_shorten_21 fl_X0_43 rfl rfl (rfX_of (o := 55) (j := 10) rfl rfl) ?_
      refine Ru_iload_n (pc := 24) dX0_shorten_24 rfl rfl ?_
      refine Ru_iload_n (pc := 25) dX0_shorten_25 rfl rfl ?_
      refine Ru_iast (pc := 26) rfl dX0_shorten_26 rfl (by omega) ?_
      refine Ru_vret (pc := 27) dX0_shorten_27 rfl ⟨Nat.le_refl _, Nat.le_refl _⟩ ?_
      refine k _ (r_upd hL (fun _ => by rw [if_pos ⟨rfl, by omega⟩]; rfl) (fun j _ hj => by rw [if_neg (fun z => hj z.1)])) (r_fx.sI rfl r_fx.rf)

theorem l_X0_soonestUnsettled {Q : Rq} {M : Mem} {t : Nat} {d : Td} {L : Nat → Nat} {T : Nat → Bool} (ht : isTown t) (hx : X_tm t d M) (wf : Wf d) (htw : M.2.2 55 0 = some t) (hL : ∀ k, k < 256 → M.1 65 k = nM (L k)) (hT : ∀ k, k < 256 → M.1 66 k = r_b (T k)) (hB : ∀ k, L k ≤ 100000) (k : Q (some (.int (nM (lSo L T (2 ^ d 0))))) GX M)  : ∀ (zw : Nat) (p : Nat), 2 ^ d 0 - p = zw → (p ≤ 2 ^ d 0) → Ru 1 mt_X0_soonestUnsettled r_z 4 [(1, some (.int (nM (lSo L T p)))), (2, some (.int (nI p))), (0, some (.ref 55))] [] GX M Q := by
  intro zw
  induction zw using Nat.strongRecOn with
  | ind zw ih =>
    intro p hw hn
    subst hw
    have hb := wf.1
    have hp := pw_le hb.1
    have em : (-1 : Int32).toInt = -1 := rfl
    have hl := lSo_le (L := L) (T := T) p
    have hz : (nM (lSo L T p)).toInt = (lSo L T p : Int) - 1 := nM_t (by omega)
    have hbp := hB p
    have hzp : (nM (L p)).toInt = (L p : Int) - 1 := nM_t (by omega)
    refine Ru_iload_n (pc := 4) dX0_soonestUnsettled_4 rfl rfl ?_
    refine Ru_aload_n (pc := 5) dX0_soonestUnsettled_5 rfl rfl ?_
    refine Ru_getR (pc := 6) t dX0_soonestUnsettled_6 fl_X0_50 rfl rfl ((rfX_mut rfl rfl).trans htw) ?_
    refine Ru_cv0 (pc := 9) dX0_soonestUnsettled_9 mv_X0_68 (shTown_0 ht) (by decide) (Nat.le_of_ble_eq_true rfl) (c_X9_sets ht hx wf ?_) 
    refine Ru_icmp_geN (pc := 12) 72 dX0_soonestUnsettled_12 (by decide) (by omega) (fun h1 => ?_) (fun h1 => ?_)
    · refine Ru_iload_n (pc := 72) dX0_soonestUnsettled_72 rfl rfl ?_
      refine Ru_iret (pc := 73) dX0_soonestUnsettled_73 rfl ⟨Nat.le_refl _, Nat.le_refl _⟩ ?_
      have ep : p = 2 ^ d 0 := by omega
      subst ep
      exact k
    · refine Ru_aload_n (pc := 15) dX0_soonestUnsettled_15 rfl rfl ?_
      refine Ru_getR (pc := 16) 65 dX0_soonestUnsettled_16 fl_X0_43 rfl rfl (rfX_of (o := 55) (j := 10) rfl rfl) ?_
      refine Ru_iload_n (pc := 19) dX0_soonestUnsettled_19 rfl rfl ?_
      refine Ru_iald (pc := 20) dX0_soonestUnsettled_20 rfl (by omega) ?_
      refine Ru_top (hL p (by omega)) ?_
      refine Ru_iconst (pc := 21) (-1) dX0_soonestUnsettled_21 rfl ?_
      refine Ru_icmp_eqT (pc := 22) 38 dX0_soonestUnsettled_22 (by decide) (fun h2 => ?_) (fun h2 => ?_)
      · refine Ru_iconst (pc := 38) (nI 0) dX0_soonestUnsettled_38 rfl ?_
        refine Ru_istore_n (pc := 39) dX0_soonestUnsettled_39 rfl rfl (by decide) ?_
        refine Ru_iload_n (pc := 40) dX0_soonestUnsettled_40 rfl rfl ?_
        refine Ru_if_eqN (pc := 41) 66 dX0_soonestUnsettled_41 (by decide) (by omega) (fun h3 => ?_) (fun h3 => ?_)
        · refine Ru_iincN (pc := 66) 1 dX0_soonestUnsettled_66 rfl rfl rfl (by decide) ?_
          refine Ru_goto (pc := 69) 4 dX0_soonestUnsettled_69 (by decide) ?_
          have e : lSo L T (p + 1) = lSo L T p := by
            rw [lSo]
            refine if_neg (fun z => ?_)
            have z2 := z.1
            omega
          have hr := ih (2 ^ d 0 - (p + 1)) (by omega) (p + 1) rfl (by omega)
          rw [e] at hr
          exact Ru_weak hr rfl
        · exfalso
          omega
      · refine Ru_aload_n (pc := 25) dX0_soonestUnsettled_25 rfl rfl ?_
        refine Ru_getR (pc := 26) 66 dX0_soonestUnsettled_26 fl_X0_46 rfl rfl (rfX_of (o := 55) (j := 11) rfl rfl) ?_
        refine Ru_iload_n (pc := 29) dX0_soonestUnsettled_29 rfl rfl ?_
        refine Ru_zald (pc := 30) dX0_soonestUnsettled_30 rfl (by omega) ?_
        refine Ru_top (hT p (by omega)) ?_
        refine Ru_if_neB (pc := 31) 38 dX0_soonestUnsettled_31 (by decide) (fun h4 => ?_) (fun h4 => ?_)
        · refine Ru_iconst (pc := 38) (nI 0) dX0_soonestUnsettled_38 rfl ?_
          refine Ru_istore_n (pc := 39) dX0_soonestUnsettled_39 rfl rfl (by decide) ?_
          refine Ru_iload_n (pc := 40) dX0_soonestUnsettled_40 rfl rfl ?_
          refine Ru_if_eqN (pc := 41) 66 dX0_soonestUnsettled_41 (by decide) (by omega) (fun h5 => ?_) (fun h5 => ?_)
          · refine Ru_iincN (pc := 66) 1 dX0_soonestUnsettled_66 rfl rfl rfl (by decide) ?_
            refine Ru_goto (pc := 69) 4 dX0_soonestUnsettled_69 (by decide) ?_
            have e : lSo L T (p + 1) = lSo L T p := by
              rw [lSo]
              refine if_neg (fun z => ?_)
              have z2 := z.2.1
              simp_all
            have hr := ih (2 ^ d 0 - (p + 1)) (by omega) (p + 1) rfl (by omega)
            rw [e] at hr
            exact Ru_weak hr rfl
          · exfalso
            omega
        · refine Ru_iconst (pc := 34) (nI 1) dX0_soonestUnsettled_34 rfl ?_
          refine Ru_goto (pc := 35) 39 dX0_soonestUnsettled_35 (by decide) ?_
          refine Ru_istore_n (pc := 39) dX0_soonestUnsettled_39 rfl rfl (by decide) ?_
          refine Ru_iload_n (pc := 40) dX0_soonestUnsettled_40 rfl rfl ?_
          refine Ru_if_eqN (pc := 41) 66 dX0_soonestUnsettled_41 (by decide) (by omega) (fun h6 => ?_) (fun h6 => ?_)
          · exfalso
            omega
          · refine Ru_iload_n (pc := 44) dX0_soonestUnsettled_44 rfl rfl ?_
            refine Ru_iconst (pc := 45) (-1) dX0_soonestUnsettled_45 rfl ?_
            refine Ru_icmp_eqT (pc := 46) 64 dX0_soonestUnsettled_46 (by decide) (fun h7 => ?_) (fun h7 => ?_)
            · refine Ru_iload_n (pc := 64) dX0_soonestUnsettled_64 rfl rfl ?_
              refine Ru_istore_n (pc := 65) dX0_soonestUnsettled_65 rfl rfl (by decide) ?_
              refine Ru_iincN (pc := 66) 1 dX0_soonestUnsettled_66 rfl rfl rfl (by decide) ?_
              refine Ru_goto (pc := 69) 4 dX0_soonestUnsettled_69 (by decide) ?_
              have e : lSo L T (p + 1) = p + 1 := by
                rw [lSo]
                refine if_pos ⟨by omega, by assumption, ?_⟩
                left; omega
              have hr := ih (2 ^ d 0 - (p + 1)) (by omega) (p + 1) rfl (by omega)
              rw [e] at hr
              exact Ru_weak hr rfl
            · obtain ⟨v, qz_ev⟩ : ∃ v, lSo L T p = v + 1 := ⟨lSo L T p - 1, by omega⟩
              rw [qz_ev]
              refine Ru_weak (L' := [(1, some (.int (nI v))), (2, some (.int (nI p))), (0, some (.ref 55)), (3, some (.int (nI 1)))]) ?_ rfl
              have lv : v < p := by omega
              have hbv := hB v
              have hzv : (nM (L v)).toInt = (L v : Int) - 1 := nM_t (by omega)
              refine Ru_aload_n (pc := 49) dX0_soonestUnsettled_49 rfl rfl ?_
              refine Ru_getR (pc := 50) 65 dX0_soonestUnsettled_50 fl_X0_43 rfl rfl (rfX_of (o := 55) (j := 10) rfl rfl) ?_
              refine Ru_iload_n (pc := 53) dX0_soonestUnsettled_53 rfl rfl ?_
              refine Ru_iald (pc := 54) dX0_soonestUnsettled_54 rfl (by omega) ?_
              refine Ru_top (hL p (by omega)) ?_
              refine Ru_aload_n (pc := 55) dX0_soonestUnsettled_55 rfl rfl ?_
              refine Ru_getR (pc := 56) 65 dX0_soonestUnsettled_56 fl_X0_43 rfl rfl (rfX_of (o := 55) (j := 10) rfl rfl) ?_
              refine Ru_iload_n (pc := 59) dX0_soonestUnsettled_59 rfl rfl ?_
              refine Ru_iald (pc := 60) dX0_soonestUnsettled_60 rfl (by omega) ?_
              refine Ru_top (hL v (by omega)) ?_
              refine Ru_icmp_geT (pc := 61) 66 dX0_soonestUnsettled_61 (by decide) (fun h8 => ?_) (fun h8 => ?_)
              · refine Ru_iincN (pc := 66) 1 dX0_soonestUnsettled_66 rfl rfl rfl (by decide) ?_
                refine Ru_goto (pc := 69) 4 dX0_soonestUnsettled_69 (by decide) ?_
                have e : lSo L T (p + 1) = lSo L T p := by
                  rw [lSo]
                  refine if_neg (fun z => ?_)
                  have z2 := z.2.2; rw [qz_ev, Nat.add_sub_cancel] at z2; omega
                have hr := ih (2 ^ d 0 - (p + 1)) (by omega) (p + 1) rfl (by omega)
                rw [e] at hr
                rw [qz_ev] at hr
                exact Ru_weak hr rfl
              · refine Ru_iload_n (pc := 64) dX0_soonestUnsettled_64 rfl rfl ?_
                refine Ru_istore_n (pc := 65) dX0_soonestUnsettled_65 rfl rfl (by decide) ?_
                refine Ru_iincN (pc := 66) 1 dX0_soonestUnsettled_66 rfl rfl rfl (by decide) ?_
                refine Ru_goto (pc := 69) 4 dX0_soonestUnsettled_69 (by decide) ?_
                have e : lSo L T (p + 1) = p + 1 := by
                  rw [lSo]
                  refine if_pos ⟨by omega, by assumption, ?_⟩
                  right; rw [qz_ev, Nat.add_sub_cancel]; omega
                have hr := ih (2 ^ d 0 - (p + 1)) (by omega) (p + 1) rfl (by omega)
                rw [e] at hr
                exact Ru_weak hr rfl

theorem c_X0_soonestUnsettled {Q : Rq} {M : Mem} {t : Nat} {d : Td} {L : Nat → Nat} {T : Nat → Bool} (ht : isTown t) (hx : X_tm t d M) (wf : Wf d) (htw : M.2.2 55 0 = some t) (hL : ∀ k, k < 256 → M.1 65 k = nM (L k)) (hT : ∀ k, k < 256 → M.1 66 k = r_b (T k)) (hB : ∀ k, L k ≤ 100000) (k : Q (some (.int (nM (lSo L T (2 ^ d 0))))) GX M) : Ca 1 mt_X0_soonestUnsettled 0 0 [.ref 55] GX M Q := by
  refine Ca_of rfl (Nat.le_of_ble_eq_true rfl) ?_
  refine Ru_iconst (pc := 0) (-1) dX0_soonestUnsettled_0 rfl ?_
  refine Ru_istore_n (pc := 1) dX0_soonestUnsettled_1 rfl rfl (by decide) ?_
  refine Ru_iconst (pc := 2) (nI 0) dX0_soonestUnsettled_2 rfl ?_
  refine Ru_istore_n (pc := 3) dX0_soonestUnsettled_3 rfl rfl (by decide) ?_
  exact Ru_weak (l_X0_soonestUnsettled ht hx wf htw hL hT hB k (2 ^ d 0) 0 rfl (Nat.zero_le _)) rfl

theorem l_X0_fewestHours1 {Q : Rq} {M0 : Mem} {t w z : Nat} {d : Td} (ht : isTown t) (hx0 : X_tm t d M0) (wf : Wf d) (htw0 : M0.2.2 55 0 = some t) (hws : w < 2 ^ d 0) (hzs : z < 2 ^ d 0) (k : ∀ M, (∀ k, k < 256 → M.1 65 k = nM 0) → (∀ k, k < 256 → M.1 66 k = r_b false) → r_fx [] [65, 66] M0 M → Ru 2 mt_X0_fewestHours r_z 38 [(0, some (.ref 55)), (1, some (.ref t)), (2, some (.int (nI w))), (3, some (.int (nI z)))] [] GX M Q) : ∀ (zw : Nat) (n : Nat) (M : Mem), 256 - n = zw → (n ≤ 256) → (∀ k, k < n → M.1 65 k = nM 0) → (∀ k, k < n → M.1 66 k = r_b false) → (r_fx [] [65, 66] M0 M) → Ru 2 mt_X0_fewestHours r_z 8 [(4, some (.int (nI n))), (0, some (.ref 55)), (1, some (.ref t)), (2, some (.int (nI w))), (3, some (.int (nI z)))] [] GX M Q := by
  intro zw
  induction zw using Nat.strongRecOn with
  | ind zw ih =>
    intro n M hw hn h65 h66 fx
    subst hw
    have hb := wf.1
    have hp := pw_le hb.1
    have em : (-1 : Int32).toInt = -1 := rfl
    have hx : X_tm t d M := (X_tm_dp ht d).kp fx rfl hx0
    have htw : M.2.2 55 0 = some t := (fx 55 0 rfl).2.2.trans htw0
    refine Ru_iload (pc := 8) dX0_fewestHours_8 rfl ?_
    refine Ru_sipush (pc := 10) (nI 256) dX0_fewestHours_10 rfl ?_
    refine Ru_icmp_geN (pc := 13) 38 dX0_fewestHours_13 (by decide) (by omega) (fun h1 => ?_) (fun h1 => ?_)
    · have e8 : n = 256 := by omega
      subst e8
      exact Ru_weak (k _ h65 h66 fx) rfl
    · refine Ru_aload_n (pc := 16) dX0_fewestHours_16 rfl rfl ?_
      refine Ru_getR (pc := 17) 65 dX0_fewestHours_17 fl_X0_43 rfl rfl (rfX_of (o := 55) (j := 10) rfl rfl) ?_
      refine Ru_iload (pc := 20) dX0_fewestHours_20 rfl ?_
      refine Ru_iconst (pc := 22) (-1) dX0_fewestHours_22 rfl ?_
      refine Ru_iast (pc := 23) rfl dX0_fewestHours_23 rfl (by omega) ?_
      refine Ru_aload_n (pc := 24) dX0_fewestHours_24 rfl rfl ?_
      refine Ru_getR (pc := 25) 66 dX0_fewestHours_25 fl_X0_46 rfl rfl (rfX_of (o := 55) (j := 11) rfl rfl) ?_
      refine Ru_iload (pc := 28) dX0_fewestHours_28 rfl ?_
      refine Ru_iconst (pc := 30) (nI 0) dX0_fewestHours_30 rfl ?_
      refine Ru_zast (pc := 31) rfl dX0_fewestHours_31 rfl (by omega) (Or.inl rfl) ?_
      refine Ru_iincN (pc := 32) 1 dX0_fewestHours_32 rfl rfl rfl (by decide) ?_
      refine Ru_goto (pc := 35) 8 dX0_fewestHours_35 (by decide) ?_
      exact Ru_weak (ih (256 - (n + 1)) (by omega) (n + 1) _ rfl (by omega) (r_oth (by decide) (r_ext h65 rfl)) (r_ext (r_oth (by decide) h66) rfl) (r_fx.sI rfl (r_fx.sI rfl fx))) rfl

theorem l_X0_fewestHours3 {Q : Rq} {M0 : Mem} {t w z : Nat} {d : Td} (ht : isTown t) (hx0 : X_tm t d M0) (wf : Wf d) (htw0 : M0.2.2 55 0 = some t) (hws : w < 2 ^ d 0) (hzs : z < 2 ^ d 0) {i s c : Nat} {L0 : Nat → Nat} {T T2 : Nat → Bool} (hss : s < 2 ^ d 0) (hL0 : L0 s = c + 1) (T2f : T2 s = true) (hmx : ∀ k, T2 k = true → L0 k ≠ 0 ∧ L0 k ≤ c + 1) (hci : c ≤ 24 * i) (hi : i < 256) (k : ∀ (L : Nat → Nat) (M : Mem), lE d z i s c (d 1) L0 L T2 → (∀ k, k < 256 → M.1 65 k = nM (L k)) → (∀ k, k < 256 → M.1 66 k = r_b (T2 k)) → r_fx [] [65, 66] M0 M → Ru 2 mt_X0_fewestHours r_z 192 [(4, some (.int (nI i))), (0, some (.ref 55)), (1, some (.ref t)), (2, some (.int (nI w))), (3, some (.int (nI z)))] [] GX M Q) : ∀ (zw : Nat) (m : Nat) (L : Nat → Nat) (M : Mem), d 1 - m = zw → (m ≤ d 1) → (lE d z i s c m L0 L T2) → (∀ k, k < 256 → M.1 65 k = nM (L k)) → (∀ k, k < 256 → M.1 66 k = r_b (T2 k)) → (r_fx [] [65, 66] M0 M) → Ru 2 mt_X0_fewestHours r_z 110 [(6, some (.int (nI m))), (5, some (.int (nI s))), (4, some (.int (nI i))), (0, some (.ref 55)), (1, some (.ref t)), (2, some (.int (nI w))), (3, some (.int (nI z)))] [] GX M Q := by
  intro zw
  induction zw using Nat.strongRecOn with
  | ind zw ih =>
    intro m L M hw hn hE hL hT fx
    subst hw
    have hb := wf.1
    have hp := pw_le hb.1
    have em : (-1 : Int32).toInt = -1 := rfl
    have hx : X_tm t d M := (X_tm_dp ht d).kp fx rfl hx0
    have htw : M.2.2 55 0 = some t := (fx 55 0 rfl).2.2.trans htw0
    have es : L s = c + 1 := (hE.2.1 s T2f).trans hL0
    have hB : ∀ k, L k ≤ 100000 := fun k => by
      have := hE.2.2.2.2.2 k
      omega
    refine Ru_iload (pc := 110) dX0_fewestHours_110 rfl ?_
    refine Ru_aload_n (pc := 112) dX0_fewestHours_112 rfl rfl ?_
    refine Ru_getR (pc := 113) t dX0_fewestHours_113 fl_X0_50 rfl rfl ((rfX_mut rfl rfl).trans htw) ?_
    refine Ru_getR (pc := 116) (t + 3) dX0_fewestHours_116 fl_X0_100 (shTown_0 ht) rfl (rfX_of (o := t) (j := 3) (shTown_0 ht) rfl) ?_
    refine Ru_getI (pc := 119) dX0_fewestHours_119 fl_X0_104 (shNames_0 (isNames_t ht).2.1) rfl ?_
    refine Ru_top hx.1.2.1 ?_
    refine Ru_icmp_geN (pc := 122) 192 dX0_fewestHours_122 (by decide) (by omega) (fun h1 => ?_) (fun h1 => ?_)
    · have em2 : m = d 1 := by omega
      subst em2
      exact Ru_weak (k L M hE hL hT fx) rfl
    · have hm5 := wf.2.2.2.2.1 m (by omega)
      refine Ru_aload_n (pc := 125) dX0_fewestHours_125 rfl rfl ?_
      refine Ru_getR (pc := 126) t dX0_fewestHours_126 fl_X0_50 rfl rfl ((rfX_mut rfl rfl).trans htw) ?_
      refine Ru_getR (pc := 129) (t + 7) dX0_fewestHours_129 fl_X0_152 (shTown_0 ht) rfl (rfX_of (o := t) (j := 7) (shTown_0 ht) rfl) ?_
      refine Ru_iload (pc := 132) dX0_fewestHours_132 rfl ?_
      refine Ru_iald (pc := 134) dX0_fewestHours_134 (shTown_7 ht) (by omega) ?_
      refine Ru_top (hx.2.2.1 m (by omega)).2.2.1 ?_
      refine Ru_iconst (pc := 135) (nI 1) dX0_fewestHours_135 rfl ?_
      refine Ru_icmp_neN (pc := 136) 186 dX0_fewestHours_136 (by decide) (by omega) (fun h2 => ?_) (fun h2 => ?_)
      · refine Ru_iincN (pc := 186) 1 dX0_fewestHours_186 rfl rfl rfl (by decide) ?_
        refine Ru_goto (pc := 189) 110 dX0_fewestHours_189 (by decide) ?_
        have hcan : ¬ lCan d m s = true := fun q => by
          unfold lCan at q
          simp only [Bool.and_eq_true, decide_eq_true_eq] at q
          omega
        exact Ru_weak (ih (d 1 - (m + 1)) (by omega) (m + 1) _ _ rfl (by omega) (lE_no hE hcan) hL hT fx) rfl
      · refine Ru_aload_n (pc := 139) dX0_fewestHours_139 rfl rfl ?_
        refine Ru_getR (pc := 140) t dX0_fewestHours_140 fl_X0_50 rfl rfl ((rfX_mut rfl rfl).trans htw) ?_
        refine Ru_iload (pc := 143) dX0_fewestHours_143 rfl ?_
        refine Ru_cv1 (pc := 145) dX0_fewestHours_145 mv_X0_117 (shTown_0 ht) (by decide) (Nat.le_of_ble_eq_true rfl) (c_X9_needsS ht hx wf (by omega) ?_) 
        refine Ru_iload (pc := 148) dX0_fewestHours_148 rfl ?_
        refine Ru_iconst (pc := 150) (-1) dX0_fewestHours_150 rfl ?_
        refine Ru_ixor (pc := 151) dX0_fewestHours_151 ?_
        refine Ru_idifN (pc := 152) dX0_fewestHours_152 ?_
        refine Ru_if_neN (pc := 153) 186 dX0_fewestHours_153 (by decide) (Nat.lt_of_le_of_lt (r_dif_le _ _) (Nat.lt_of_lt_of_le (r_or_lt hm5.2.2.2.1 hm5.2.2.2.2.1) (by omega))) (fun h3 => ?_) (fun h3 => ?_)
        · refine Ru_iincN (pc := 186) 1 dX0_fewestHours_186 rfl rfl rfl (by decide) ?_
          refine Ru_goto (pc := 189) 110 dX0_fewestHours_189 (by decide) ?_
          have hcan : ¬ lCan d m s = true := fun q => by
            unfold lCan at q
            simp only [Bool.and_eq_true, decide_eq_true_eq] at q
            omega
          exact Ru_weak (ih (d 1 - (m + 1)) (by omega) (m + 1) _ _ rfl (by omega) (lE_no hE hcan) hL hT fx) rfl
        · have hcan : lCan d m s = true := by
            unfold lCan
            simp only [Bool.and_eq_true, decide_eq_true_eq]
            omega
          have hml := lMade_lt wf (m := m) (by omega) hss
          refine Ru_aload_n (pc := 156) dX0_fewestHours_156 rfl rfl ?_
          refine Ru_aload_n (pc := 157) dX0_fewestHours_157 rfl rfl ?_
          refine Ru_iload (pc := 158) dX0_fewestHours_158 rfl ?_
          refine Ru_iload (pc := 160) dX0_fewestHours_160 rfl ?_
          refine Ru_cv2 (pc := 162) dX0_fewestHours_162 mv_X0_131 rfl (by decide) (Nat.le_of_ble_eq_true rfl) (c_X0_made ht hx wf htw (by omega) ?_) 
          refine Ru_aload_n (pc := 165) dX0_fewestHours_165 rfl rfl ?_
          refine Ru_getR (pc := 166) 65 dX0_fewestHours_166 fl_X0_43 rfl rfl (rfX_of (o := 55) (j := 10) rfl rfl) ?_
          refine Ru_iload (pc := 169) dX0_fewestHours_169 rfl ?_
          refine Ru_iald (pc := 171) dX0_fewestHours_171 rfl (by omega) ?_
          refine Ru_top ((hL s (by omega)).trans (by rw [es])) ?_
          refine Ru_aload_n (pc := 172) dX0_fewestHours_172 rfl rfl ?_
          refine Ru_getR (pc := 173) t dX0_fewestHours_173 fl_X0_50 rfl rfl ((rfX_mut rfl rfl).trans htw) ?_
          refine Ru_getR (pc := 176) (t + 6) dX0_fewestHours_176 fl_X0_121 (shTown_0 ht) rfl (rfX_of (o := t) (j := 6) (shTown_0 ht) rfl) ?_
          refine Ru_iload (pc := 179) dX0_fewestHours_179 rfl ?_
          refine Ru_iald (pc := 181) dX0_fewestHours_181 (shTown_6 ht) (by omega) ?_
          refine Ru_top (hx.2.2.1 m (by omega)).2.1 ?_
          refine Ru_iaddN (pc := 182) dX0_fewestHours_182 ?_
          refine Ru_cv2 (pc := 183) dX0_fewestHours_183 mv_X0_183 rfl (by decide) (Nat.le_of_ble_eq_true rfl) (c_X0_shorten (L := L) hL hB (by omega) (by omega) (fun M2 hL2 fx2 => ?_)) 
          refine Ru_iincN (pc := 186) 1 dX0_fewestHours_186 rfl rfl rfl (by decide) ?_
          refine Ru_goto (pc := 189) 110 dX0_fewestHours_189 (by decide) ?_
          have hE2 := lE_up wf (by simp [T2f]) hL0 (fun k hk => hmx k hk) hci (by omega) hE hcan (fun k => rfl)
          exact Ru_weak (ih (d 1 - (m + 1)) (by omega) (m + 1) _ _ rfl (by omega) hE2 hL2 (fun k hk => (fx2 66 k rfl).1.trans (hT k hk)) (fx.tr (fx2.mono rfl))) rfl

theorem l_X0_fewestHours2 {Q : Rq} {M0 : Mem} {t w z : Nat} {d : Td} (ht : isTown t) (hx0 : X_tm t d M0) (wf : Wf d) (htw0 : M0.2.2 55 0 = some t) (hws : w < 2 ^ d 0) (hzs : z < 2 ^ d 0) (k0 : ∀ M, lA d w z 0 → r_fx [] [65, 66] M0 M → Q (some (.int (-1))) GX M) (kc : ∀ (M : Mem) (c : Nat), c < 100000 → lA d w z (c + 1) → r_fx [] [65, 66] M0 M → Q (some (.int (nM (c + 1)))) GX M) : ∀ (zw : Nat) (i : Nat) (L : Nat → Nat) (T : Nat → Bool) (M : Mem), 2 ^ d 0 - i = zw → (i ≤ 2 ^ d 0) → (lD d w z i L T) → (∀ k, k < 256 → M.1 65 k = nM (L k)) → (∀ k, k < 256 → M.1 66 k = r_b (T k)) → (r_fx [] [65, 66] M0 M) → Ru 2 mt_X0_fewestHours r_z 48 [(4, some (.int (nI i))), (0, some (.ref 55)), (1, some (.ref t)), (2, some (.int (nI w))), (3, some (.int (nI z)))] [] GX M Q := by
  intro zw
  induction zw using Nat.strongRecOn with
  | ind zw ih =>
    intro i L T M hw hn hD hL hT fx
    subst hw
    have hb := wf.1
    have hp := pw_le hb.1
    have em : (-1 : Int32).toInt = -1 := rfl
    have hx : X_tm t d M := (X_tm_dp ht d).kp fx rfl hx0
    have htw : M.2.2 55 0 = some t := (fx 55 0 rfl).2.2.trans htw0
    have hl := lSo_le (L := L) (T := T) (2 ^ d 0)
    have hz : (nM (lSo L T (2 ^ d 0))).toInt = (lSo L T (2 ^ d 0) : Int) - 1 := nM_t (by omega)
    have hB : ∀ k, L k ≤ 100000 := fun k => by
      have := hD.2.2.2.2.1 k
      omega
    refine Ru_iload (pc := 48) dX0_fewestHours_48 rfl ?_
    refine Ru_aload_n (pc := 50) dX0_fewestHours_50 rfl rfl ?_
    refine Ru_getR (pc := 51) t dX0_fewestHours_51 fl_X0_50 rfl rfl ((rfX_mut rfl rfl).trans htw) ?_
    refine Ru_cv0 (pc := 54) dX0_fewestHours_54 mv_X0_68 (shTown_0 ht) (by decide) (Nat.le_of_ble_eq_true rfl) (c_X9_sets ht hx wf ?_) 
    refine Ru_icmp_geN (pc := 57) 198 dX0_fewestHours_57 (by decide) (by omega) (fun h1 => ?_) (fun h1 => ?_)
    · refine Ru_iconst (pc := 198) (-1) dX0_fewestHours_198 rfl ?_
      refine Ru_iret (pc := 199) dX0_fewestHours_199 rfl ⟨Nat.le_refl _, Nat.le_refl _⟩ ?_
      exact k0 M (lD_none hD (fun s hs _ => cn_full _ (by have hq := hD.2.2.2.2.2; omega) s hs)) fx
    · refine Ru_aload_n (pc := 60) dX0_fewestHours_60 rfl rfl ?_
      refine Ru_cv0 (pc := 61) dX0_fewestHours_61 mv_X0_180 rfl (by decide) (Nat.le_of_ble_eq_true rfl) (c_X0_soonestUnsettled ht hx wf htw hL hT hB ?_) 
      refine Ru_istore (pc := 64) dX0_fewestHours_64 rfl (by decide) ?_
      refine Ru_iload (pc := 66) dX0_fewestHours_66 rfl ?_
      refine Ru_iconst (pc := 68) (-1) dX0_fewestHours_68 rfl ?_
      refine Ru_icmp_eqT (pc := 69) 81 dX0_fewestHours_69 (by decide) (fun h2 => ?_) (fun h2 => ?_)
      · refine Ru_iload (pc := 81) dX0_fewestHours_81 rfl ?_
        refine Ru_iconst (pc := 83) (-1) dX0_fewestHours_83 rfl ?_
        refine Ru_icmp_neT (pc := 84) 91 dX0_fewestHours_84 (by decide) (fun h3 => ?_) (fun h3 => ?_)
        · exfalso
          omega
        · refine Ru_iconst (pc := 87) (-1) dX0_fewestHours_87 rfl ?_
          refine Ru_goto (pc := 88) 98 dX0_fewestHours_88 (by decide) ?_
          refine Ru_iret (pc := 98) dX0_fewestHours_98 rfl ⟨Nat.le_refl _, Nat.le_refl _⟩ ?_
          exact k0 M (lD_none hD (fun s hs h0 => lSo_none (by omega) s hs h0)) fx
      · obtain ⟨s, qz_es⟩ : ∃ s, lSo L T (2 ^ d 0) = s + 1 := ⟨lSo L T (2 ^ d 0) - 1, by omega⟩
        rw [qz_es]
        refine Ru_weak (L' := [(4, some (.int (nI i))), (0, some (.ref 55)), (1, some (.ref t)), (2, some (.int (nI w))), (3, some (.int (nI z))), (5, some (.int (nI s)))]) ?_ rfl
        have hss : s < 2 ^ d 0 := by omega
        have hin := lSo_in qz_es
        have hmin := lSo_min qz_es
        obtain ⟨c, hLs⟩ : ∃ c, L s = c + 1 := ⟨L s - 1, by omega⟩
        have hbs := hD.2.2.2.2.1 s
        refine Ru_iload_n (pc := 72) dX0_fewestHours_72 rfl rfl ?_
        refine Ru_iload (pc := 73) dX0_fewestHours_73 rfl ?_
        refine Ru_iconst (pc := 75) (-1) dX0_fewestHours_75 rfl ?_
        refine Ru_ixor (pc := 76) dX0_fewestHours_76 ?_
        refine Ru_idifN (pc := 77) dX0_fewestHours_77 ?_
        refine Ru_if_neN (pc := 78) 99 dX0_fewestHours_78 (by decide) (Nat.lt_of_le_of_lt (r_dif_le _ _) (by omega)) (fun h4 => ?_) (fun h4 => ?_)
        · refine Ru_aload_n (pc := 99) dX0_fewestHours_99 rfl rfl ?_
          refine Ru_getR (pc := 100) 66 dX0_fewestHours_100 fl_X0_46 rfl rfl (rfX_of (o := 55) (j := 11) rfl rfl) ?_
          refine Ru_iload (pc := 103) dX0_fewestHours_103 rfl ?_
          refine Ru_iconst (pc := 105) (nI 1) dX0_fewestHours_105 rfl ?_
          refine Ru_zast (pc := 106) rfl dX0_fewestHours_106 rfl (by omega) (Or.inr rfl) ?_
          refine Ru_iconst (pc := 107) (nI 0) dX0_fewestHours_107 rfl ?_
          refine Ru_istore (pc := 108) dX0_fewestHours_108 rfl (by decide) ?_
          have hwn : ¬ r_dif w s = 0 := by omega
          have hci : c ≤ 24 * i := by omega
          refine Ru_weak (l_X0_fewestHours3 (M0 := M0) (c := c) (L0 := L) (T := T) (T2 := fun k => if k = s then true else T k) ht hx0 wf htw0 hws hzs hss hLs (by simp) (lE_mx hD hLs hin.2) hci (by omega) (fun L3 M3 gE gL gT gx => ?_) (d 1) 0 L _ rfl (Nat.zero_le _) (lE_z hD hLs hin.2 (fun s' h1 h2 h3 => hmin s' h1 h2 h3)) (r_oth (by decide) hL) (r_upd hT (fun _ => by simp; rfl) (fun j _ hj => by simp [hj])) (r_fx.sI rfl fx)) rfl
          have hz1 : L3 z = 1 := by
            by_cases ez : (if z = s then true else T z) = true
            · exact (gE.2.1 z ez).trans hD.2.1
            · obtain ⟨c3, e3, e4⟩ := gE.2.2.2.1 z 0 hD.2.1
              omega
          refine Ru_iincN (pc := 192) 1 dX0_fewestHours_192 rfl rfl rfl (by decide) ?_
          refine Ru_goto (pc := 195) 48 dX0_fewestHours_195 (by decide) ?_
          exact Ru_weak (ih (2 ^ d 0 - (i + 1)) (by omega) (i + 1) L3 _ M3 rfl (by omega) (lE_end hD hLs hin.2 hwn hz1 (fun s' h1 h2 h3 => hmin s' h1 h2 h3) gE) gL gT gx) rfl
        · refine Ru_iload (pc := 81) dX0_fewestHours_81 rfl ?_
          refine Ru_iconst (pc := 83) (-1) dX0_fewestHours_83 rfl ?_
          refine Ru_icmp_neR (pc := 84) 91 dX0_fewestHours_84 (by decide) (by omega) (fun h5 => ?_) (fun h5 => ?_)
          · refine Ru_aload_n (pc := 91) dX0_fewestHours_91 rfl rfl ?_
            refine Ru_getR (pc := 92) 65 dX0_fewestHours_92 fl_X0_43 rfl rfl (rfX_of (o := 55) (j := 10) rfl rfl) ?_
            refine Ru_iload (pc := 95) dX0_fewestHours_95 rfl ?_
            refine Ru_iald (pc := 97) dX0_fewestHours_97 rfl (by omega) ?_
            refine Ru_top (hL s (by omega)) ?_
            refine Ru_iret (pc := 98) dX0_fewestHours_98 rfl ⟨Nat.le_refl _, Nat.le_refl _⟩ ?_
            rw [hLs]
            refine kc _ c (by omega) (lD_found hD hLs (by omega) (fun s' h1 h2 h3 => hmin s' h1 h2 h3)) fx
          · exfalso
            omega

theorem c_X0_fewestHours {Q : Rq} {M : Mem} {t w z : Nat} {d : Td} (ht : isTown t) (hx : X_tm t d M) (wf : Wf d) (hws : w < 2 ^ d 0) (hzs : z < 2 ^ d 0) (k0 : ∀ M', lA d w z 0 → r_fx [(55, 0)] [65, 66] M M' → Q (some (.int (-1))) GX M') (kc : ∀ (M' : Mem) (c : Nat), c < 100000 → lA d w z (c + 1) → r_fx [(55, 0)] [65, 66] M M' → Q (some (.int (nM (c + 1)))) GX M') : Ca 2 mt_X0_fewestHours 0 0 [.ref 55, .ref t, .int (nI w), .int (nI z)] GX M Q := by
  refine Ca_of rfl (Nat.le_of_ble_eq_true rfl) ?_
  refine Ru_aload_n (pc := 0) dX0_fewestHours_0 rfl rfl ?_
  refine Ru_aload_n (pc := 1) dX0_fewestHours_1 rfl rfl ?_
  refine Ru_putR (pc := 2) rfl dX0_fewestHours_2 fl_X0_50 rfl (frX_none (o := 55) (ci := 0) (k := 0) rfl rfl) ?_
  refine Ru_iconst (pc := 5) (nI 0) dX0_fewestHours_5 rfl ?_
  refine Ru_istore (pc := 6) dX0_fewestHours_6 rfl (by decide) ?_
  have hp := pw_le wf.1.1
  have fx0 : r_fx [(55, 0)] [65, 66] M (r_sR M 55 0 (some t)) := r_fx.sR rfl r_fx.rf
  have hx1 : X_tm t d (r_sR M 55 0 (some t)) := (X_tm_dp ht d).kp fx0 rfl hx
  have ht1 : (r_sR M 55 0 (some t)).2.2 55 0 = some t := by simp [r_sR_g]
  generalize r_sR M 55 0 (some t) = M1 at *
  refine Ru_weak (l_X0_fewestHours1 (M0 := M1) ht hx1 wf ht1 hws hzs (fun M2 g65 g66 gx2 => ?_) 256 0 M1 rfl (by omega) (fun k hk => by omega) (fun k hk => by omega) r_fx.rf) rfl
  refine Ru_aload_n (pc := 38) dX0_fewestHours_38 rfl rfl ?_
  refine Ru_getR (pc := 39) 65 dX0_fewestHours_39 fl_X0_43 rfl rfl (rfX_of (o := 55) (j := 10) rfl rfl) ?_
  refine Ru_iload_n (pc := 42) dX0_fewestHours_42 rfl rfl ?_
  refine Ru_iconst (pc := 43) (nI 0) dX0_fewestHours_43 rfl ?_
  refine Ru_iast (pc := 44) rfl dX0_fewestHours_44 rfl (by omega) ?_
  refine Ru_iconst (pc := 45) (nI 0) dX0_fewestHours_45 rfl ?_
  refine Ru_istore (pc := 46) dX0_fewestHours_46 rfl (by decide) ?_
  exact Ru_weak (l_X0_fewestHours2 (M0 := M1) ht hx1 wf ht1 hws hzs (fun M3 g gx => k0 M3 g (fx0.tr (gx.mono rfl))) (fun M3 c hcb g gx => kc M3 c hcb g (fx0.tr (gx.mono rfl))) (2 ^ d 0) 0 _ _ _ rfl (Nat.zero_le _) (lD_z hzs) (r_upd g65 (fun _ => by simp; rfl) (fun j _ hj => by simp [hj])) (r_oth (by decide) g66) (r_fx.sI rfl gx2)) rfl

theorem c_X11_labour {Q : Rq} {M : Mem} {mk t lw pl : Nat} {d : Td} {w s : Int32} (hu : X_cu mk t lw pl d M) (hx : X_tm t d M) (wf : Wf d) (k : ∀ M', r_fx [(0, 0), (55, 0)] [65, 66] M M' → M'.1 0 0 = nI (g_labour d w s).2 → Q (some (.int (g_labour d w s).1)) GX M') : Ca 3 mt_X11_labour 0 0 [.ref 0, .int w, .int s] GX M Q := by
  refine Ca_of rfl (Nat.le_of_ble_eq_true rfl) ?_
  have hb := wf.1
  have hp := pw_le hb.1
  have ht : isTown t := hu.1.2.2.2
  have em : (-1 : Int32).toInt = -1 := rfl
  refine Ru_aload_n (pc := 0) dX11_labour_0 rfl rfl ?_
  refine Ru_iload_n (pc := 1) dX11_labour_1 rfl rfl ?_
  refine Ru_cv1 (pc := 2) dX11_labour_2 mv_X11_254 rfl (by decide) (Nat.le_of_ble_eq_true rfl) (c_X11_isSet hu hx wf ?_) 
  refine Ru_if_eqB (pc := 5) 16 dX11_labour_5 (by decide) (fun h1 => ?_) (fun h1 => ?_)
  · replace h1 := of_decide_eq_false h1
    refine Ru_aload_n (pc := 16) dX11_labour_16 rfl rfl ?_
    refine Ru_iconst (pc := 17) (nI 2) dX11_labour_17 rfl ?_
    refine Ru_cv1 (pc := 18) dX11_labour_18 mv_X11_112 rfl (by decide) (Nat.le_of_ble_eq_true rfl) (c_X11_fail ?_) 
    refine Ru_iret (pc := 21) dX11_labour_21 rfl ⟨Nat.le_refl _, Nat.le_refl _⟩ ?_
    have e : g_labour d w s = (-1, 2) := by
      unfold g_labour
      rw [if_pos (by omega)]
    rw [e] at k
    exact k _ (r_fx.sI rfl r_fx.rf) r_sI_s
  · replace h1 := of_decide_eq_true h1
    refine Ru_aload_n (pc := 8) dX11_labour_8 rfl rfl ?_
    refine Ru_iload_n (pc := 9) dX11_labour_9 rfl rfl ?_
    refine Ru_cv1 (pc := 10) dX11_labour_10 mv_X11_254 rfl (by decide) (Nat.le_of_ble_eq_true rfl) (c_X11_isSet hu hx wf ?_) 
    refine Ru_if_neB (pc := 13) 22 dX11_labour_13 (by decide) (fun h2 => ?_) (fun h2 => ?_)
    · replace h2 := of_decide_eq_true h2
      obtain ⟨w', hw', rfl⟩ := r_nat (x := w) (n := 256) (by omega) (by omega)
      have ew := r_tn (show w' < 2147483648 by omega)
      obtain ⟨s', hs', rfl⟩ := r_nat (x := s) (n := 256) (by omega) (by omega)
      have es := r_tn (show s' < 2147483648 by omega)
      refine Ru_aload_n (pc := 22) dX11_labour_22 rfl rfl ?_
      refine Ru_getR (pc := 23) 55 dX11_labour_23 fl_X11_68 rfl rfl (rfX_of (o := 0) (j := 55) rfl rfl) ?_
      refine Ru_aload_n (pc := 26) dX11_labour_26 rfl rfl ?_
      refine Ru_cv0 (pc := 27) dX11_labour_27 mv_X11_154 rfl (by decide) (Nat.le_of_ble_eq_true rfl) (c_X11_now hu ?_) 
      refine Ru_iload_n (pc := 30) dX11_labour_30 rfl rfl ?_
      refine Ru_iload_n (pc := 31) dX11_labour_31 rfl rfl ?_
      refine Ru_cv3 (pc := 32) dX11_labour_32 mv_X11_287 rfl (by decide) (Nat.le_of_ble_eq_true rfl) (c_X0_fewestHours ht hx wf (by omega) (by omega) (fun M2 hA fx2 => ?_) (fun M2 c hcb hA fx2 => ?_))
      · refine Ru_istore_n (pc := 35) dX11_labour_35 rfl rfl (by decide) ?_
        refine Ru_iload_n (pc := 36) dX11_labour_36 rfl rfl ?_
        refine Ru_iconst (pc := 37) (-1) dX11_labour_37 rfl ?_
        refine Ru_icmp_neT (pc := 38) 50 dX11_labour_38 (by decide) (fun h1 => ?_) (fun h1 => ?_)
        · exact absurd rfl h1
        · refine Ru_aload_n (pc := 41) dX11_labour_41 rfl rfl ?_
          refine Ru_bipush (pc := 42) (nI 8) dX11_labour_42 rfl ?_
          refine Ru_cv1 (pc := 44) dX11_labour_44 mv_X11_112 rfl (by decide) (Nat.le_of_ble_eq_true rfl) (c_X11_fail ?_) 
          refine Ru_goto (pc := 47) 55 dX11_labour_47 (by decide) ?_
          refine Ru_iret (pc := 55) dX11_labour_55 rfl ⟨Nat.le_refl _, Nat.le_refl _⟩ ?_
          have e : g_labour d (nI w') (nI s') = (-1, 8) := by
            unfold g_labour
            rw [if_neg (by omega), r_tnn (show w' < 2147483648 by omega), r_tnn (show s' < 2147483648 by omega), lV_of hA]
            rw [if_pos rfl]
          rw [e] at k
          exact k _ (r_fx.sI rfl (fx2.mono rfl)) r_sI_s
      · refine Ru_istore_n (pc := 35) dX11_labour_35 rfl rfl (by decide) ?_
        refine Ru_iload_n (pc := 36) dX11_labour_36 rfl rfl ?_
        refine Ru_iconst (pc := 37) (-1) dX11_labour_37 rfl ?_
        refine Ru_icmp_neT (pc := 38) 50 dX11_labour_38 (by decide) (fun h1 => ?_) (fun h1 => ?_)
        · refine Ru_aload_n (pc := 50) dX11_labour_50 rfl rfl ?_
          refine Ru_iload_n (pc := 51) dX11_labour_51 rfl rfl ?_
          refine Ru_cv1 (pc := 52) dX11_labour_52 mv_X11_170 rfl (by decide) (Nat.le_of_ble_eq_true rfl) (c_X11_tell ?_) 
          refine Ru_iret (pc := 55) dX11_labour_55 rfl ⟨Nat.le_refl _, Nat.le_refl _⟩ ?_
          have e : g_labour d (nI w') (nI s') = ((nM (c + 1)), 0) := by
            unfold g_labour
            rw [if_neg (by omega), r_tnn (show w' < 2147483648 by omega), r_tnn (show s' < 2147483648 by omega), lV_of hA]
            rw [if_neg (by omega)]
          rw [e] at k
          exact k _ (r_fx.sI rfl (fx2.mono rfl)) r_sI_s
        · exfalso
          have hcc := nM_t (k := c + 1) (by omega)
          rw [em] at h1
          omega
    · replace h2 := of_decide_eq_false h2
      refine Ru_aload_n (pc := 16) dX11_labour_16 rfl rfl ?_
      refine Ru_iconst (pc := 17) (nI 2) dX11_labour_17 rfl ?_
      refine Ru_cv1 (pc := 18) dX11_labour_18 mv_X11_112 rfl (by decide) (Nat.le_of_ble_eq_true rfl) (c_X11_fail ?_) 
      refine Ru_iret (pc := 21) dX11_labour_21 rfl ⟨Nat.le_refl _, Nat.le_refl _⟩ ?_
      have e : g_labour d w s = (-1, 2) := by
        unfold g_labour
        rw [if_pos (by omega)]
      rw [e] at k
      exact k _ (r_fx.sI rfl r_fx.rf) r_sI_s
