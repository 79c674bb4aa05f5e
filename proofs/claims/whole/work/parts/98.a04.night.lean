def qSt (d : Td) (A s r : Nat) (L : List Tp) (i : Nat) : Nat := stA d A s r (L.getD i (0, 0, 0)).1 (L.getD i (0, 0, 0)).2.1 (L.getD i (0, 0, 0)).2.2
def qB (g : Nat → Nat) : Nat → Nat
  | 0 => 0
  | n + 1 => max (qB g n) (g n)
theorem qB_sp (g : Nat → Nat) : ∀ n, (∀ i, i < n → g i ≤ qB g n) ∧ (qB g n = 0 ∨ ∃ i, i < n ∧ qB g n = g i)
  | 0 => ⟨fun i hi => by omega, Or.inl rfl⟩
  | n + 1 => by
    obtain ⟨a, b⟩ := qB_sp g n
    have e : qB g (n + 1) = max (qB g n) (g n) := rfl
    refine ⟨fun i hi => ?_, ?_⟩
    · by_cases z : i = n
      · subst z
        omega
      · have := a i (by omega)
        omega
    · by_cases z : qB g n ≤ g n
      · exact Or.inr ⟨n, by omega, by omega⟩
      · rcases b with b | ⟨i, h1, h2⟩
        · omega
        · exact Or.inr ⟨i, by omega, by omega⟩
theorem qL_get {d : Td} {s r : Nat} {x : Tp} (h : x ∈ qL d s r) : ∃ i, i < (qL d s r).length ∧ (qL d s r).getD i (0, 0, 0) = x := by
  obtain ⟨i, hi, e⟩ := List.mem_iff_getElem.mp h
  refine ⟨i, hi, ?_⟩
  rw [List.getD_eq_getElem?_getD, List.getElem?_eq_getElem hi, e]
  rfl
theorem qL_in {d : Td} {s r i : Nat} (h : i < (qL d s r).length) : (qL d s r).getD i (0, 0, 0) ∈ qL d s r := by
  rw [List.getD_eq_getElem?_getD, List.getElem?_eq_getElem h]
  exact List.getElem_mem h
theorem qB_eq {d : Td} (wf : Wf d) {A s r : Nat} (hs : s < 2 ^ d 0) (f : Nat → Nat) : qB (fun i => f (qSt d A s r (qL d s r) i)) (qL d s r).length = nBest d A f s r := by
  obtain ⟨a, b⟩ := qB_sp (fun i => f (qSt d A s r (qL d s r) i)) (qL d s r).length
  refine Nat.le_antisymm ?_ ?_
  · rcases b with b | ⟨i, hi, e⟩
    · omega
    · rw [e]
      exact nB_le (qL_al wf (qL_in hi))
  · obtain ⟨w, h, v, ha, e⟩ := nB_ex d A f s r
    obtain ⟨x, hx, e2, _⟩ := qL_norm wf (A := A) (r := r) hs ha
    obtain ⟨i, hi, e3⟩ := qL_get hx
    have := a i hi
    have e4 : qSt d A s r (qL d s r) i = stA d A s r w h v := by
      unfold qSt
      rw [e3, e2]
    rw [← e, ← e4]
    exact this
theorem qSt_or {d : Td} {A s r i : Nat} (hs : s < 2 ^ d 0) : qSt d 0 s r (qL d s r) i ||| (A &&& s) = qSt d A s r (qL d s r) i := (stA_or hs).symm
theorem qSt_lt (d : Td) (A s r i : Nat) : qSt d A s r (qL d s r) i < 2 ^ d 0 := stA_lt _ _ _ _ _ _ _
theorem qL_len {d : Td} (hd : d 0 ≤ 8) (s r : Nat) : (qL d s r).length ≤ 729 := by
  have := q1_len hd s r (d 0 + 1)
  unfold qL
  omega

theorem l_X0_rN1 {Q : Rq} {M : Mem} {d : Td} {t A s r w wn : Nat} {f : Nat → Nat} (wf : Wf d) (hs : s < 2 ^ d 0) (hw : w ≤ 8) (hFb : ∀ x, f x ≤ 100000000) (hA : A < 256) (hN : nF d s r (qL d s r) M) (h59 : M.1 59 w = nI A) (h57 : ∀ s', s' < 2 ^ d 0 → M.1 57 (w * 256 + s') = nI (f s')) (k : Ru 4 mt_X0_reckonNight r_z 105 [(6, some (.int (nI (nBest d A f s r)))), (4, some (.int (nI s))), (5, some (.int (nI w))), (0, some (.ref 55)), (1, some (.ref 46)), (2, some (.int (nI wn))), (3, some (.int (nI r)))] [] GX M Q) : ∀ (zw : Nat) (n : Nat), (qL d s r).length - n = zw → (n ≤ (qL d s r).length) → Ru 4 mt_X0_reckonNight r_z 49 [(6, some (.int (nI (qB (fun i => f (qSt d A s r (qL d s r) i)) n)))), (7, some (.int (nI n))), (4, some (.int (nI s))), (5, some (.int (nI w))), (0, some (.ref 55)), (1, some (.ref 46)), (2, some (.int (nI wn))), (3, some (.int (nI r)))] [] GX M Q := by
  intro zw
  induction zw using Nat.strongRecOn with
  | ind zw ih =>
    intro n hw hn
    subst hw
    have hb := wf.1
    have hp := pw_le hb.1
    have hll := qL_len hb.1 s r
    have h52 : ∀ i, i < (qL d s r).length → M.1 52 i = nI (qSt d 0 s r (qL d s r) i) := fun i hi => (hN.2 i hi).2.2.2
    have hbb : ∀ n, qB (fun i => f (qSt d A s r (qL d s r) i)) n ≤ 100000000 := fun n => by
      rcases (qB_sp (fun i => f (qSt d A s r (qL d s r) i)) n).2 with z | ⟨i, _, z⟩
      · omega
      · rw [z]
        exact hFb _
    have hbn := hbb n
    refine Ru_iload (pc := 49) dX0_reckonNight_49 rfl ?_
    refine Ru_aload_n (pc := 51) dX0_reckonNight_51 rfl rfl ?_
    refine Ru_getI (pc := 52) dX0_reckonNight_52 fl_X0_84 rfl rfl ?_
    refine Ru_top hN.1 ?_
    refine Ru_icmp_geN (pc := 55) 105 dX0_reckonNight_55 (by decide) (by omega) (fun h1 => ?_) (fun h1 => ?_)
    · have en : n = (qL d s r).length := by omega
      subst en
      rw [qB_eq wf hs f]
      exact Ru_weak k rfl
    · refine Ru_aload_n (pc := 58) dX0_reckonNight_58 rfl rfl ?_
      refine Ru_getR (pc := 59) 52 dX0_reckonNight_59 fl_X0_88 rfl rfl (rfX_of (o := 46) (j := 6) rfl rfl) ?_
      refine Ru_iload (pc := 62) dX0_reckonNight_62 rfl ?_
      refine Ru_iald (pc := 64) dX0_reckonNight_64 rfl (by omega) ?_
      refine Ru_top (h52 n (by omega)) ?_
      refine Ru_aload_n (pc := 65) dX0_reckonNight_65 rfl rfl ?_
      refine Ru_getR (pc := 66) 59 dX0_reckonNight_66 fl_X0_21 rfl rfl (rfX_of (o := 55) (j := 4) rfl rfl) ?_
      refine Ru_iload (pc := 69) dX0_reckonNight_69 rfl ?_
      refine Ru_iald (pc := 71) dX0_reckonNight_71 rfl (by omega) ?_
      refine Ru_top h59 ?_
      refine Ru_iload (pc := 72) dX0_reckonNight_72 rfl ?_
      refine Ru_iandN (pc := 74) dX0_reckonNight_74 ?_
      refine Ru_iorN (pc := 75) dX0_reckonNight_75 ?_
      have hst := qSt_lt d A s r n
      have hfb := hFb (qSt d A s r (qL d s r) n)
      refine Ru_top (show nI ((qSt d 0 s r (qL d s r) n) ||| (A &&& s)) = nI (qSt d A s r (qL d s r) n) from congrArg nI (qSt_or hs)) ?_
      refine Ru_istore (pc := 76) dX0_reckonNight_76 rfl (by decide) ?_
      refine Ru_iload (pc := 78) dX0_reckonNight_78 rfl ?_
      refine Ru_aload_n (pc := 80) dX0_reckonNight_80 rfl rfl ?_
      refine Ru_getR (pc := 81) 57 dX0_reckonNight_81 fl_X0_15 rfl rfl (rfX_of (o := 55) (j := 2) rfl rfl) ?_
      refine Ru_iload (pc := 84) dX0_reckonNight_84 rfl ?_
      refine Ru_sipush (pc := 86) (nI 256) dX0_reckonNight_86 rfl ?_
      refine Ru_imulN (pc := 89) dX0_reckonNight_89 ?_
      refine Ru_iload (pc := 90) dX0_reckonNight_90 rfl ?_
      refine Ru_iaddN (pc := 92) dX0_reckonNight_92 ?_
      refine Ru_iald (pc := 93) dX0_reckonNight_93 rfl (by omega) ?_
      refine Ru_top (h57 (qSt d A s r (qL d s r) n) (by assumption)) ?_
      refine Ru_cs2 (pc := 94) dX0_reckonNight_94 ms_X0_91 (by decide) (Nat.le_of_ble_eq_true rfl) (c_X_maxN (by omega) (by omega) ?_) 
      refine Ru_istore (pc := 97) dX0_reckonNight_97 rfl (by decide) ?_
      refine Ru_iincN (pc := 99) 1 dX0_reckonNight_99 rfl rfl rfl (by decide) ?_
      refine Ru_goto (pc := 102) 49 dX0_reckonNight_102 (by decide) ?_
      have e : qB (fun i => f (qSt d A s r (qL d s r) i)) (n + 1) = (max (qB (fun i => f (qSt d A s r (qL d s r) i)) n) (f (qSt d A s r (qL d s r) n))) := rfl
      have hr := ih ((qL d s r).length - (n + 1)) (by omega) (n + 1) rfl (by omega)
      rw [e] at hr
      exact Ru_weak hr rfl

theorem l_X0_rN2 {Q : Rq} {M0 : Mem} {d : Td} {t s r wn : Nat} {Al : Nat → Nat} {f : Nat → Nat → Nat} (wf : Wf d) (hwn : wn ≤ 9) (hFb : ∀ w x, f w x ≤ 100000000) (hAb : ∀ w, Al w < 256) (hs : s < 2 ^ d 0) (hN0 : nF d s r (qL d s r) M0) (h590 : ∀ w, w < wn → M0.1 59 w = nI (Al w)) (h570 : ∀ w s', w < wn → s' < 2 ^ d 0 → M0.1 57 (w * 256 + s') = nI (f w s')) (k : ∀ M, (∀ w', w' < wn → M.1 58 (w' * 256 + s) = nI (nBest d (Al w') (f w') s r)) → (∀ w' s', w' < wn → s' < 2 ^ d 0 → s' ≠ s → M.1 58 (w' * 256 + s') = M0.1 58 (w' * 256 + s')) → r_fx [] [58] M0 M → Ru 4 mt_X0_reckonNight r_z 127 [(4, some (.int (nI s))), (0, some (.ref 55)), (1, some (.ref 46)), (2, some (.int (nI wn))), (3, some (.int (nI r)))] [] GX M Q) : ∀ (zw : Nat) (w : Nat) (M : Mem), wn - w = zw → (w ≤ wn) → (∀ w', w' < w → M.1 58 (w' * 256 + s) = nI (nBest d (Al w') (f w') s r)) → (∀ w' s', w' < wn → s' < 2 ^ d 0 → s' ≠ s → M.1 58 (w' * 256 + s') = M0.1 58 (w' * 256 + s')) → (r_fx [] [58] M0 M) → Ru 4 mt_X0_reckonNight r_z 37 [(5, some (.int (nI w))), (4, some (.int (nI s))), (0, some (.ref 55)), (1, some (.ref 46)), (2, some (.int (nI wn))), (3, some (.int (nI r)))] [] GX M Q := by
  intro zw
  induction zw using Nat.strongRecOn with
  | ind zw ih =>
    intro w M hw hn hE hO fx
    subst hw
    have hb := wf.1
    have hp := pw_le hb.1
    have hN : nF d s r (qL d s r) M := ⟨(fx 46 4 rfl).1.trans hN0.1, fun i hi => ⟨(fx 49 i rfl).1.trans (hN0.2 i hi).1, (fx 50 i rfl).1.trans (hN0.2 i hi).2.1, (fx 51 i rfl).1.trans (hN0.2 i hi).2.2.1, (fx 52 i rfl).1.trans (hN0.2 i hi).2.2.2⟩⟩
    have h59 : ∀ w, w < wn → M.1 59 w = nI (Al w) := fun w h => (fx 59 w rfl).1.trans (h590 w h)
    have h57 : ∀ w s', w < wn → s' < 2 ^ d 0 → M.1 57 (w * 256 + s') = nI (f w s') := fun w s' h1 h2 => (fx 57 _ rfl).1.trans (h570 w s' h1 h2)
    have hnb : nBest d (Al w) (f w) s r ≤ 100000000 := nB_b (hFb w)
    refine Ru_iload (pc := 37) dX0_reckonNight_37 rfl ?_
    refine Ru_iload_n (pc := 39) dX0_reckonNight_39 rfl rfl ?_
    refine Ru_icmp_geN (pc := 40) 127 dX0_reckonNight_40 (by decide) (by omega) (fun h1 => ?_) (fun h1 => ?_)
    · have en : w = wn := by omega
      subst en
      exact Ru_weak (k M hE hO fx) rfl
    · refine Ru_iconst (pc := 43) (nI 0) dX0_reckonNight_43 rfl ?_
      refine Ru_istore (pc := 44) dX0_reckonNight_44 rfl (by decide) ?_
      refine Ru_iconst (pc := 46) (nI 0) dX0_reckonNight_46 rfl ?_
      refine Ru_istore (pc := 47) dX0_reckonNight_47 rfl (by decide) ?_
      refine Ru_weak (l_X0_rN1 (M := M) (t := t) (wn := wn) (f := f w) (A := Al w) wf hs (by omega) (hFb w) (hAb w) hN (h59 w (by omega)) (fun s' h => h57 w s' (by omega) h) ?_ (qL d s r).length 0 rfl (Nat.zero_le _)) rfl
      refine Ru_aload_n (pc := 105) dX0_reckonNight_105 rfl rfl ?_
      refine Ru_getR (pc := 106) 58 dX0_reckonNight_106 fl_X0_18 rfl rfl (rfX_of (o := 55) (j := 3) rfl rfl) ?_
      refine Ru_iload (pc := 109) dX0_reckonNight_109 rfl ?_
      refine Ru_sipush (pc := 111) (nI 256) dX0_reckonNight_111 rfl ?_
      refine Ru_imulN (pc := 114) dX0_reckonNight_114 ?_
      refine Ru_iload (pc := 115) dX0_reckonNight_115 rfl ?_
      refine Ru_iaddN (pc := 117) dX0_reckonNight_117 ?_
      refine Ru_iload (pc := 118) dX0_reckonNight_118 rfl ?_
      refine Ru_iast (pc := 120) rfl dX0_reckonNight_120 rfl (by omega) ?_
      refine Ru_iincN (pc := 121) 1 dX0_reckonNight_121 rfl rfl rfl (by decide) ?_
      refine Ru_goto (pc := 124) 37 dX0_reckonNight_124 (by decide) ?_
      refine Ru_weak (ih (wn - (w + 1)) (by omega) (w + 1) _ rfl (by omega) (fun w' h => ?_) (fun w' s' h1 h2 h3 => ?_) ((r_fx.sI rfl fx))) rfl
      · by_cases e : w' = w
        · subst e
          simp [r_sI_g]
        · have h9 := hE w' (by omega)
          rw [← h9]
          simp [r_sI_g]
          omega
      · rw [← hO w' s' h1 h2 h3]
        simp [r_sI_g]
        omega

theorem l_X0_rN3 {Q : Rq} {M0 : Mem} {d : Td} {r wn : Nat} {Al : Nat → Nat} {f : Nat → Nat → Nat} (wf : Wf d) (hwn : wn ≤ 9) (hFb : ∀ w x, f w x ≤ 100000000) (hAb : ∀ w, Al w < 256) (hr : r < 7) {mk t lw pl : Nat} (hu0 : X_cu mk t lw pl d M0) (hx0 : X_tm t d M0) (hlw0 : X_lw lw d M0) (hwl : Wl d) (htw0 : M0.2.2 55 0 = some t) (h590 : ∀ w, w < wn → M0.1 59 w = nI (Al w)) (h570 : ∀ w s', w < wn → s' < 2 ^ d 0 → M0.1 57 (w * 256 + s') = nI (f w s')) (k : ∀ M', r_fx [(46, 0), (46, 2), (46, 4)] [47, 48, 49, 50, 51, 52, 58] M0 M' → (∀ w' s', w' < wn → s' < 2 ^ d 0 → M'.1 58 (w' * 256 + s') = nI (nBest d (Al w') (f w') s' r)) → Q none GX M') : ∀ (zw : Nat) (s : Nat) (M : Mem), 2 ^ d 0 - s = zw → (s ≤ 2 ^ d 0) → (∀ w' s', w' < wn → s' < s → M.1 58 (w' * 256 + s') = nI (nBest d (Al w') (f w') s' r)) → (r_fx [(46, 0), (46, 2), (46, 4)] [47, 48, 49, 50, 51, 52, 58] M0 M) → Ru 4 mt_X0_reckonNight r_z 3 [(4, some (.int (nI s))), (0, some (.ref 55)), (1, some (.ref 46)), (2, some (.int (nI wn))), (3, some (.int (nI r)))] [] GX M Q := by
  intro zw
  induction zw using Nat.strongRecOn with
  | ind zw ih =>
    intro s M hw hn hE fx
    subst hw
    have hb := wf.1
    have hp := pw_le hb.1
    have ht : isTown t := hu0.1.2.2.2
    have hT : t = 3 ∨ t = 83 ∨ t = 111 ∨ t = 139 ∨ t = 167 := ht
    have hlwi : isLaw lw := hu0.2.1.2.1
    have hu : X_cu mk t lw pl d M := (X_cu_dp mk t lw pl d).kp fx rfl hu0
    have hx : X_tm t d M := (X_tm_dp ht d).kp fx rfl hx0
    have hlw : X_lw lw d M := (X_lw_dp hlwi d).kp fx rfl hlw0
    have htw : M.2.2 55 0 = some t := (fx 55 0 rfl).2.2.trans htw0
    refine Ru_iload (pc := 3) dX0_reckonNight_3 rfl ?_
    refine Ru_aload_n (pc := 5) dX0_reckonNight_5 rfl rfl ?_
    refine Ru_getR (pc := 6) t dX0_reckonNight_6 fl_X0_50 rfl rfl ((rfX_mut rfl rfl).trans htw) ?_
    refine Ru_cv0 (pc := 9) dX0_reckonNight_9 mv_X0_68 (shTown_0 ht) (by decide) (Nat.le_of_ble_eq_true rfl) (c_X9_sets ht hx wf ?_) 
    refine Ru_icmp_geN (pc := 12) 133 dX0_reckonNight_12 (by decide) (by omega) (fun h1 => ?_) (fun h1 => ?_)
    · refine Ru_vret (pc := 133) dX0_reckonNight_133 rfl ⟨Nat.le_refl _, Nat.le_refl _⟩ ?_
      have en : s = 2 ^ d 0 := by omega
      subst en
      exact k M fx hE
    · refine Ru_aload_n (pc := 15) dX0_reckonNight_15 rfl rfl ?_
      refine Ru_aload_n (pc := 16) dX0_reckonNight_16 rfl rfl ?_
      refine Ru_getR (pc := 17) t dX0_reckonNight_17 fl_X0_50 rfl rfl ((rfX_mut rfl rfl).trans htw) ?_
      refine Ru_iload (pc := 20) dX0_reckonNight_20 rfl ?_
      refine Ru_iload_n (pc := 22) dX0_reckonNight_22 rfl rfl ?_
      refine Ru_cv3 (pc := 23) dX0_reckonNight_23 mv_X0_74 rfl (by decide) (Nat.le_of_ble_eq_true rfl) (c_X4_look hu hx hlw wf hwl (s := s) (r := r) (by omega) (by omega) (fun M2 h47 hth hpl gx2 => ?_)) 
      have fx2 : r_fx [(46, 0), (46, 2), (46, 4)] [47, 48, 49, 50, 51, 52, 58] M0 M2 := fx.tr (gx2.mono rfl)
      have hx2 : X_tm t d M2 := (X_tm_dp ht d).kp fx2 rfl hx0
      have htw2 : M2.2.2 55 0 = some t := (fx2 55 0 rfl).2.2.trans htw0
      refine Ru_aload_n (pc := 26) dX0_reckonNight_26 rfl rfl ?_
      refine Ru_aload_n (pc := 27) dX0_reckonNight_27 rfl rfl ?_
      refine Ru_getR (pc := 28) t dX0_reckonNight_28 fl_X0_50 rfl rfl ((rfX_mut rfl rfl).trans htw2) ?_
      refine Ru_cv1 (pc := 31) dX0_reckonNight_31 mv_X0_80 rfl (by decide) (Nat.le_of_ble_eq_true rfl) (c_X4_list wf h47 hth hpl ht hx2 (fun M3 hN3 gx3 => ?_)) 
      have fx3 : r_fx [(46, 0), (46, 2), (46, 4)] [47, 48, 49, 50, 51, 52, 58] M0 M3 := fx2.tr (gx3.mono rfl)
      have hx3 : X_tm t d M3 := (X_tm_dp ht d).kp fx3 rfl hx0
      have htw3 : M3.2.2 55 0 = some t := (fx3 55 0 rfl).2.2.trans htw0
      refine Ru_iconst (pc := 34) (nI 0) dX0_reckonNight_34 rfl ?_
      refine Ru_istore (pc := 35) dX0_reckonNight_35 rfl (by decide) ?_
      refine Ru_weak (l_X0_rN2 (M0 := M3) (t := t) (Al := Al) (f := f) wf hwn hFb hAb (by omega) hN3 (fun w h => (fx3 59 w rfl).1.trans (h590 w h)) (fun w s' h1 h2 => (fx3 57 _ rfl).1.trans (h570 w s' h1 h2)) (fun M4 hE4 hO4 gx4 => ?_) wn 0 M3 rfl (Nat.zero_le _) (fun w' h => by omega) (fun _ _ _ _ _ => rfl) r_fx.rf) rfl
      have fx4 : r_fx [(46, 0), (46, 2), (46, 4)] [47, 48, 49, 50, 51, 52, 58] M0 M4 := fx3.tr (gx4.mono rfl)
      refine Ru_iincN (pc := 127) 1 dX0_reckonNight_127 rfl rfl rfl (by decide) ?_
      refine Ru_goto (pc := 130) 3 dX0_reckonNight_130 (by decide) ?_
      refine Ru_weak (ih (2 ^ d 0 - (s + 1)) (by omega) (s + 1) M4 rfl (by omega) (fun w' s' qa qb => ?_) fx4) rfl
      by_cases e : s' = s
      · subst e
        exact hE4 w' qa
      · rw [hO4 w' s' qa (by omega) e, (gx3 58 _ rfl).1, (gx2 58 _ rfl).1]
        exact hE w' s' qa (by omega)

theorem c_X0_reckonNight {Q : Rq} {M : Mem} {d : Td} {r wn : Nat} {Al : Nat → Nat} {f : Nat → Nat → Nat} (wf : Wf d) (hwn : wn ≤ 9) (hFb : ∀ w x, f w x ≤ 100000000) (hAb : ∀ w, Al w < 256) (hr : r < 7) {mk t lw pl : Nat} (hu : X_cu mk t lw pl d M) (hx : X_tm t d M) (hlw : X_lw lw d M) (hwl : Wl d) (htw : M.2.2 55 0 = some t) (h590 : ∀ w, w < wn → M.1 59 w = nI (Al w)) (h570 : ∀ w s', w < wn → s' < 2 ^ d 0 → M.1 57 (w * 256 + s') = nI (f w s')) (k : ∀ M', r_fx [(46, 0), (46, 2), (46, 4)] [47, 48, 49, 50, 51, 52, 58] M M' → (∀ w' s', w' < wn → s' < 2 ^ d 0 → M'.1 58 (w' * 256 + s') = nI (nBest d (Al w') (f w') s' r)) → Q none GX M') : Ca 4 mt_X0_reckonNight 0 0 [.ref 55, .ref 46, .int (nI wn), .int (nI r)] GX M Q := by
  refine Ca_of rfl (Nat.le_of_ble_eq_true rfl) ?_
  refine Ru_iconst (pc := 0) (nI 0) dX0_reckonNight_0 rfl ?_
  refine Ru_istore (pc := 1) dX0_reckonNight_1 rfl (by decide) ?_
  exact Ru_weak (l_X0_rN3 (M0 := M) wf hwn hFb hAb hr hu hx hlw hwl htw h590 h570 k (2 ^ d 0) 0 M rfl (Nat.zero_le _) (fun w' s' _ h => by omega) r_fx.rf) rfl
