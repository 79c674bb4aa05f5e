theorem r_wI_s {M : Mem} {o k : Nat} {f : Nat → Int32} : (r_wI M o f).1 o k = f k := by simp [r_wI]
theorem r_wI_n {M : Mem} {o o' k : Nat} {f : Nat → Int32} (h : o' ≠ o) : (r_wI M o f).1 o' k = M.1 o' k := by simp [r_wI, h]
theorem dBm_cg {d : Td} {V V' : Vt} {m t s : Nat} (h1 : 1 ≤ d (41 + m)) (hte : t + d (41 + m) ≤ 24) (h : ∀ t' s', t < t' → t' ≤ 24 → V t' s' = V' t' s') : dBm d V m t s = dBm d V' m t s := by
  unfold dBm
  rw [h _ _ (by omega) hte]
theorem dMf_cg {d : Td} (wf : Wf d) {V V' : Vt} {t s : Nat} (ht : t < 24) (h : ∀ t' s', t < t' → t' ≤ 24 → V t' s' = V' t' s') : ∀ m, m ≤ d 1 → dMf d V t s m = dMf d V' t s m
  | 0, _ => h _ _ (by omega) (by omega)
  | m + 1, hm => by
    have h5 := (wf.2.2.2.2.1 m (by omega)).2.1.1
    rw [dMf, dMf, dMf_cg wf ht h m (by omega)]
    split
    · rename_i q
      rw [dBm_cg h5 q.2 h]
    · rfl
theorem dA_row {d : Td} (wf : Wf d) {B : Nat → Nat} {t s : Nat} (ht : t ≤ 24) : dA d B t s = dRow d B (dA d B) t s := by
  have e := dA_of (d := d) (B := B) (k := (24 - t) + 1) (t := t) (s := s) (by omega) (by omega) ht
  have e2 : dV d B ((24 - t) + 1) t s = dRow d B (dV d B (24 - t)) t s := by
    show (if t = 24 - (24 - t) then _ else _) = _
    rw [if_pos (by omega)]
  rw [← e, e2]
  unfold dRow
  by_cases e24 : t = 24
  · rw [if_pos e24, if_pos e24]
  · rw [if_neg e24, if_neg e24]
    congr 1
    exact dMf_cg wf (by omega) (fun t' s' h1 h2 => dA_of (by omega) (by omega) h2) _ (Nat.le_refl _)

theorem l_X0_reckonDay1 {Q : Rq} {M0 : Mem} {t wo : Nat} {d : Td} {E : Nat → Nat} (ht : isTown t) (hx0 : X_tm t d M0) (wf : Wf d) (htw0 : M0.2.2 55 0 = some t) (hEb : ∀ s, E s ≤ 10000000) {tm : Nat} (htm : tm < 24) (k : ∀ M, (∀ s', s' < 2 ^ d 0 → M.1 56 (tm * 256 + s') = nI (dMf d (dA d E) tm s' (d 1))) → (∀ t' s', tm < t' → t' ≤ 24 → s' < 2 ^ d 0 → M.1 56 (t' * 256 + s') = nI (dA d E t' s')) → r_fx [(61, 0), (61, 1), (61, 2)] [56] M0 M → Ru 4 mt_X0_reckonDay r_z 98 [(2, some (.int (nI tm))), (0, some (.ref 55)), (1, some (.int (nI wo)))] [] GX M Q) : ∀ (zw : Nat) (m : Nat) (M : Mem), d 1 - m = zw → (m ≤ d 1) → (∀ s', s' < 2 ^ d 0 → M.1 56 (tm * 256 + s') = nI (dMf d (dA d E) tm s' m)) → (∀ t' s', tm < t' → t' ≤ 24 → s' < 2 ^ d 0 → M.1 56 (t' * 256 + s') = nI (dA d E t' s')) → (r_fx [(61, 0), (61, 1), (61, 2)] [56] M0 M) → Ru 4 mt_X0_reckonDay r_z 63 [(3, some (.int (nI m))), (2, some (.int (nI tm))), (0, some (.ref 55)), (1, some (.int (nI wo)))] [] GX M Q := by
  intro zw
  induction zw using Nat.strongRecOn with
  | ind zw ih =>
    intro m M hw hn hrow hV fx
    subst hw
    have hb := wf.1
    have hp := pw_le hb.1
    have hx : X_tm t d M := (X_tm_dp ht d).kp fx rfl hx0
    have htw : M.2.2 55 0 = some t := (fx 55 0 rfl).2.2.trans htw0
    have hVb : ∀ t' s', dA d E t' s' ≤ 100000000 := fun t' s' => by
      have := dV_b3 wf hEb (show 25 ≤ 25 by omega) t' s'
      have e : dA d E t' s' = dV d E 25 t' s' := rfl
      omega
    refine Ru_iload_n (pc := 63) dX0_reckonDay_63 rfl rfl ?_
    refine Ru_aload_n (pc := 64) dX0_reckonDay_64 rfl rfl ?_
    refine Ru_getR (pc := 65) t dX0_reckonDay_65 fl_X0_50 rfl rfl ((rfX_mut rfl rfl).trans htw) ?_
    refine Ru_getR (pc := 68) (t + 3) dX0_reckonDay_68 fl_X0_100 (shTown_0 ht) rfl (rfX_of (o := t) (j := 3) (shTown_0 ht) rfl) ?_
    refine Ru_getI (pc := 71) dX0_reckonDay_71 fl_X0_104 (shNames_0 (isNames_t ht).2.1) rfl ?_
    refine Ru_top hx.1.2.1 ?_
    refine Ru_icmp_geN (pc := 74) 98 dX0_reckonDay_74 (by decide) (by omega) (fun h1 => ?_) (fun h1 => ?_)
    · have em : m = d 1 := by omega
      subst em
      exact Ru_weak (k M hrow hV fx) rfl
    · refine Ru_aload_n (pc := 77) dX0_reckonDay_77 rfl rfl ?_
      refine Ru_iload_n (pc := 78) dX0_reckonDay_78 rfl rfl ?_
      refine Ru_iload_n (pc := 79) dX0_reckonDay_79 rfl rfl ?_
      refine Ru_cv2 (pc := 80) dX0_reckonDay_80 mv_X0_109 rfl (by decide) (Nat.le_of_ble_eq_true rfl) (c_X0_canBegin ht hx wf htw (by omega) (by omega) ?_) 
      refine Ru_if_eqB (pc := 83) 92 dX0_reckonDay_83 (by decide) (fun h2 => ?_) (fun h2 => ?_)
      · replace h2 := of_decide_eq_false h2
        refine Ru_iincN (pc := 92) 1 dX0_reckonDay_92 rfl rfl rfl (by decide) ?_
        refine Ru_goto (pc := 95) 63 dX0_reckonDay_95 (by decide) ?_
        exact Ru_weak (ih (d 1 - (m + 1)) (by omega) (m + 1) M rfl (by omega) (fun s' hs' => by rw [dMf, if_neg (fun z => by have z1 := z.1; unfold lCan at z1; rw [Bool.and_eq_true] at z1; have := of_decide_eq_true z1.1; omega)]; exact hrow s' hs') hV fx) rfl
      · replace h2 := of_decide_eq_true h2
        refine Ru_aload_n (pc := 86) dX0_reckonDay_86 rfl rfl ?_
        refine Ru_iload_n (pc := 87) dX0_reckonDay_87 rfl rfl ?_
        refine Ru_iload_n (pc := 88) dX0_reckonDay_88 rfl rfl ?_
        refine Ru_cv2 (pc := 89) dX0_reckonDay_89 mv_X0_113 rfl (by decide) (Nat.le_of_ble_eq_true rfl) (c_X0_beginAll (V := dA d E) ht hx wf htw (by omega) (by omega) (by omega) hV hVb hrow (fun M2 gx2 hout2 hrow2 => ?_)) 
        have fx2 : r_fx [(61, 0), (61, 1), (61, 2)] [56] M0 M2 := fx.tr gx2
        refine Ru_iincN (pc := 92) 1 dX0_reckonDay_92 rfl rfl rfl (by decide) ?_
        refine Ru_goto (pc := 95) 63 dX0_reckonDay_95 (by decide) ?_
        exact Ru_weak (ih (d 1 - (m + 1)) (by omega) (m + 1) M2 rfl (by omega) hrow2 (fun t' s' h1 h2 h3 => (hout2 _ (by omega)).trans (hV t' s' h1 h2 h3)) fx2) rfl

theorem l_X0_reckonDay2 {Q : Rq} {M0 : Mem} {t wo : Nat} {d : Td} {E : Nat → Nat} (ht : isTown t) (hx0 : X_tm t d M0) (wf : Wf d) (htw0 : M0.2.2 55 0 = some t) (hEb : ∀ s, E s ≤ 10000000) (k : ∀ M', r_fx [(61, 0), (61, 1), (61, 2)] [56] M0 M' → (∀ t s, t ≤ 24 → s < 2 ^ d 0 → M'.1 56 (t * 256 + s) = nI (dA d E t s)) → Q none GX M') : ∀ (zw : Nat) (j : Nat) (M : Mem), j = zw → (j ≤ 24) → (∀ t' s', j ≤ t' → t' ≤ 24 → s' < 2 ^ d 0 → M.1 56 (t' * 256 + s') = nI (dA d E t' s')) → (r_fx [(61, 0), (61, 1), (61, 2)] [56] M0 M) → Ru 4 mt_X0_reckonDay r_z 31 [(2, some (.int (nM j))), (0, some (.ref 55)), (1, some (.int (nI wo)))] [] GX M Q := by
  intro zw
  induction zw using Nat.strongRecOn with
  | ind zw ih =>
    intro j M hw hj hA fx
    subst hw
    have hb := wf.1
    have hp := pw_le hb.1
    have hz : (nM j).toInt = (j : Int) - 1 := nM_t (by omega)
    have hVb : ∀ t' s', dA d E t' s' ≤ 100000000 := fun t' s' => by
      have := dV_b3 wf hEb (show 25 ≤ 25 by omega) t' s'
      have e : dA d E t' s' = dV d E 25 t' s' := rfl
      omega
    refine Ru_iload_n (pc := 31) dX0_reckonDay_31 rfl rfl ?_
    refine Ru_if_ltT (pc := 32) 109 dX0_reckonDay_32 (by decide) (fun h1 => ?_) (fun h1 => ?_)
    · refine Ru_vret (pc := 109) dX0_reckonDay_109 rfl ⟨Nat.le_refl _, Nat.le_refl _⟩ ?_
      exact k M fx (fun t s h1 h2 => hA t s (by omega) h1 h2)
    · obtain ⟨tm, rfl⟩ : ∃ tm, j = tm + 1 := ⟨j - 1, by omega⟩
      refine Ru_weak (L' := [(2, some (.int (nI tm))), (0, some (.ref 55)), (1, some (.int (nI wo)))]) ?_ rfl
      refine Ru_aload_n (pc := 35) dX0_reckonDay_35 rfl rfl ?_
      refine Ru_getR (pc := 36) 56 dX0_reckonDay_36 fl_X0_9 rfl rfl (rfX_of (o := 55) (j := 1) rfl rfl) ?_
      refine Ru_iload_n (pc := 39) dX0_reckonDay_39 rfl rfl ?_
      refine Ru_iconst (pc := 40) (nI 1) dX0_reckonDay_40 rfl ?_
      refine Ru_iaddN (pc := 41) dX0_reckonDay_41 ?_
      refine Ru_sipush (pc := 42) (nI 256) dX0_reckonDay_42 rfl ?_
      refine Ru_imulN (pc := 45) dX0_reckonDay_45 ?_
      refine Ru_aload_n (pc := 46) dX0_reckonDay_46 rfl rfl ?_
      refine Ru_getR (pc := 47) 56 dX0_reckonDay_47 fl_X0_9 rfl rfl (rfX_of (o := 55) (j := 1) rfl rfl) ?_
      refine Ru_iload_n (pc := 50) dX0_reckonDay_50 rfl rfl ?_
      refine Ru_sipush (pc := 51) (nI 256) dX0_reckonDay_51 rfl ?_
      refine Ru_imulN (pc := 54) dX0_reckonDay_54 ?_
      refine Ru_sipush (pc := 55) (nI 256) dX0_reckonDay_55 rfl ?_
      refine Ru_copyI (pc := 58) rfl dX0_reckonDay_58 cp_X0 rfl rfl (by omega) (by omega) (by decide) (Nat.le_of_ble_eq_true rfl) ?_
      have fx1 : r_fx [(61, 0), (61, 1), (61, 2)] [56] M0 (r_wI M 56 (va_cpy (M.1 56) (M.1 56) ((tm + 1) * 256) (tm * 256) 256)) := r_fx.wI (fun k => r_in_A rfl) fx
      have hr1 : ∀ s', s' < 2 ^ d 0 → (r_wI M 56 (va_cpy (M.1 56) (M.1 56) ((tm + 1) * 256) (tm * 256) 256)).1 56 (tm * 256 + s') = nI (dMf d (dA d E) tm s' 0) := fun s' hs' => by
        rw [r_wI_s, pk_cpy_in (by omega) (by omega), show (tm + 1) * 256 + (tm * 256 + s' - tm * 256) = (tm + 1) * 256 + s' by omega]
        exact hA (tm + 1) s' (by omega) (by omega) hs'
      have hV1 : ∀ t' s', tm < t' → t' ≤ 24 → s' < 2 ^ d 0 → (r_wI M 56 (va_cpy (M.1 56) (M.1 56) ((tm + 1) * 256) (tm * 256) 256)).1 56 (t' * 256 + s') = nI (dA d E t' s') := fun t' s' h1 h2 h3 => by
        rw [r_wI_s, pk_cpy_out (by omega)]
        exact hA t' s' (by omega) h2 h3
      generalize (r_wI M 56 (va_cpy (M.1 56) (M.1 56) ((tm + 1) * 256) (tm * 256) 256)) = M1 at *
      refine Ru_iconst (pc := 61) (nI 0) dX0_reckonDay_61 rfl ?_
      refine Ru_istore_n (pc := 62) dX0_reckonDay_62 rfl rfl (by decide) ?_
      refine Ru_weak (l_X0_reckonDay1 (M0 := M0) (E := E) (tm := tm) ht hx0 wf htw0 hEb (by omega) (fun M2 hrow2 hV2 gx2 => ?_) (d 1) 0 M1 rfl (Nat.zero_le _) hr1 hV1 fx1) rfl
      have hx2 : X_tm t d M2 := (X_tm_dp ht d).kp gx2 rfl hx0
      have htw2 : M2.2.2 55 0 = some t := (gx2 55 0 rfl).2.2.trans htw0
      refine Ru_aload_n (pc := 98) dX0_reckonDay_98 rfl rfl ?_
      refine Ru_iload_n (pc := 99) dX0_reckonDay_99 rfl rfl ?_
      refine Ru_cv1 (pc := 100) dX0_reckonDay_100 mv_X0_97 rfl (by decide) (Nat.le_of_ble_eq_true rfl) (c_X0_serveAll (P := fun s => dMf d (dA d E) tm s (d 1)) ht hx2 wf htw2 (by omega) (fun s => by have := dMf_b2 wf (t := tm) (s := s) hVb (d 1) (Nat.le_refl _); omega) hrow2 (fun M3 gx3 hout3 hrow3 => ?_)) 
      have fx3 : r_fx [(61, 0), (61, 1), (61, 2)] [56] M0 M3 := gx2.tr gx3
      refine Ru_iinc (pc := 103) _ dX0_reckonDay_103 rfl rfl rfl (by decide) ?_
      refine Ru_goto (pc := 106) 31 dX0_reckonDay_106 (by decide) ?_
      rw [nM_dec (by omega)]
      refine Ru_weak (ih tm (by omega) tm M3 rfl (by omega) (fun t' s' h1 h2 h3 => ?_) fx3) rfl
      by_cases e : t' = tm
      · subst e
        rw [hrow3 s' h3, dA_row wf h2]
        unfold dRow
        rw [if_neg (by omega)]
      · exact (hout3 _ (by omega)).trans (hV2 t' s' (by omega) h2 h3)

theorem c_X0_reckonDay {Q : Rq} {M : Mem} {t wo : Nat} {d : Td} {E : Nat → Nat} (ht : isTown t) (hx : X_tm t d M) (wf : Wf d) (htw : M.2.2 55 0 = some t) (hEb : ∀ s, E s ≤ 10000000) (hwo : wo ≤ 8) (hE : ∀ s, s < 2 ^ d 0 → M.1 58 (wo * 256 + s) = nI (E s)) (k : ∀ M', r_fx [(61, 0), (61, 1), (61, 2)] [56] M M' → (∀ t s, t ≤ 24 → s < 2 ^ d 0 → M'.1 56 (t * 256 + s) = nI (dA d E t s)) → Q none GX M') : Ca 4 mt_X0_reckonDay 0 0 [.ref 55, .int (nI wo)] GX M Q := by
  refine Ca_of rfl (Nat.le_of_ble_eq_true rfl) ?_
  have hp := pw_le wf.1.1
  refine Ru_aload_n (pc := 0) dX0_reckonDay_0 rfl rfl ?_
  refine Ru_getR (pc := 1) 58 dX0_reckonDay_1 fl_X0_18 rfl rfl (rfX_of (o := 55) (j := 3) rfl rfl) ?_
  refine Ru_iload_n (pc := 4) dX0_reckonDay_4 rfl rfl ?_
  refine Ru_sipush (pc := 5) (nI 256) dX0_reckonDay_5 rfl ?_
  refine Ru_imulN (pc := 8) dX0_reckonDay_8 ?_
  refine Ru_aload_n (pc := 9) dX0_reckonDay_9 rfl rfl ?_
  refine Ru_getR (pc := 10) 56 dX0_reckonDay_10 fl_X0_9 rfl rfl (rfX_of (o := 55) (j := 1) rfl rfl) ?_
  refine Ru_sipush (pc := 13) (nI 6144) dX0_reckonDay_13 rfl ?_
  refine Ru_sipush (pc := 16) (nI 256) dX0_reckonDay_16 rfl ?_
  refine Ru_copyI (pc := 19) rfl dX0_reckonDay_19 cp_X0 rfl rfl (by omega) (by omega) (by decide) (Nat.le_of_ble_eq_true rfl) ?_
  have fx1 : r_fx [(61, 0), (61, 1), (61, 2)] [56] M (r_wI M 56 (va_cpy (M.1 58) (M.1 56) (wo * 256) 6144 256)) := r_fx.wI (fun k => r_in_A rfl) r_fx.rf
  have hr1 : ∀ s', s' < 2 ^ d 0 → (r_wI M 56 (va_cpy (M.1 58) (M.1 56) (wo * 256) 6144 256)).1 56 (24 * 256 + s') = nI (E s') := fun s' hs' => by
    rw [r_wI_s, pk_cpy_in (by omega) (by omega), show wo * 256 + (24 * 256 + s' - 6144) = wo * 256 + s' by omega]
    exact hE s' hs'
  generalize (r_wI M 56 (va_cpy (M.1 58) (M.1 56) (wo * 256) 6144 256)) = M1 at *
  have hx1 : X_tm t d M1 := (X_tm_dp ht d).kp fx1 rfl hx
  have htw1 : M1.2.2 55 0 = some t := (fx1 55 0 rfl).2.2.trans htw
  refine Ru_aload_n (pc := 22) dX0_reckonDay_22 rfl rfl ?_
  refine Ru_bipush (pc := 23) (nI 24) dX0_reckonDay_23 rfl ?_
  refine Ru_cv1 (pc := 25) dX0_reckonDay_25 mv_X0_97 rfl (by decide) (Nat.le_of_ble_eq_true rfl) (c_X0_serveAll (tm := 24) (P := E) ht hx1 wf htw1 (by omega) (fun s => by have := hEb s; omega) hr1 (fun M2 gx2 hout2 hrow2 => ?_)) 
  have fx2 : r_fx [(61, 0), (61, 1), (61, 2)] [56] M M2 := fx1.tr gx2
  refine Ru_bipush (pc := 28) (nI 23) dX0_reckonDay_28 rfl ?_
  refine Ru_istore_n (pc := 30) dX0_reckonDay_30 rfl rfl (by decide) ?_
  refine Ru_weak (l_X0_reckonDay2 (M0 := M) (E := E) ht hx wf htw hEb k 24 24 M2 rfl (Nat.le_refl _) (fun t' s' h1 h2 h3 => ?_) fx2) rfl
  have e : t' = 24 := by omega
  subst e
  rw [hrow2 s' h3, dA_row wf (Nat.le_refl _)]
  unfold dRow
  rw [if_pos rfl]
