-- READING: town, the developers' side: the call
/-- the cells that town may change -/
def tP (u lw pl mk o k : Nat) : Prop := bP u lw pl o k ∨ (o = 0 ∧ (k = 0 ∨ k = 6)) ∨ (o = 2 ∧ k = mk) ∨ (o = 40 ∧ (k = 1 ∨ (6 ≤ k ∧ k ≤ 8))) ∨ (43 ≤ o ∧ o ≤ 45)

theorem r_sR_s {M : Mem} {o k : Nat} {v : Option Nat} : (r_sR M o k v).2.2 o k = v := by
  rw [r_sR_g, if_pos ⟨rfl, rfl⟩]
theorem X_tm_k0 {t : Nat} {d : Td} {M M' : Mem} (ht : isTown t) (h : ∀ o k, ¬ o = 0 → M'.1 o k = M.1 o k) (p : X_tm t d M) : X_tm t d M' := by
  have ht0 : ¬ t = 0 := by
    unfold isTown at ht
    omega
  have g : ∀ j, ∀ k, M'.1 (t + j) k = M.1 (t + j) k := fun j k => h (t + j) k (by omega)
  have g0 : ∀ k, M'.1 t k = M.1 t k := fun k => h t k ht0
  obtain ⟨⟨a1, a2, a3, a4⟩, ⟨b1, b2, b3⟩, c1, c2, c3, c4, c5⟩ := p
  refine ⟨⟨(g 1 2).trans a1, (g 3 2).trans a2, (g 10 2).trans a3, (g0 12).trans a4⟩, ⟨(g0 1).trans b1, (g0 2).trans b2, (g0 16).trans b3⟩, fun m hm => ?_, fun q hq => ?_, fun w hw => ?_, fun w hw => (g 17 w).trans (c4 w hw), fun k hk => (g 18 k).trans (c5 k hk)⟩
  · obtain ⟨x1, x2, x3, x4, x5⟩ := c1 m hm
    exact ⟨(g 5 m).trans x1, (g 6 m).trans x2, (g 7 m).trans x3, (g 8 m).trans x4, (g 9 m).trans x5⟩
  · exact ⟨(g 12 q).trans (c2 q hq).1, (g 13 q).trans (c2 q hq).2⟩
  · exact ⟨(g 14 w).trans (c3 w hw).1, (g 15 w).trans (c3 w hw).2.1, (g 16 w).trans (c3 w hw).2.2⟩
theorem X_bw_k0 {u : Nat} {x : St9} {M M' : Mem} (hu : isTown u) (h : ∀ o k, ¬ o = 0 → M'.1 o k = M.1 o k ∧ M'.2.1 o k = M.2.1 o k) (b : X_bw u x M) : X_bw u x M' := by
  obtain ⟨⟨c1, c2, c3⟩, w1, w2, w3⟩ := b
  exact ⟨⟨(h _ _ (by omega)).1.trans c1, (h _ _ (by omega)).1.trans c2, (h _ _ (by omega)).1.trans c3⟩, fun k hk => ⟨(h _ _ (by omega)).2.trans (w1 k hk).1, (w1 k hk).2⟩, fun k hk => ⟨(h _ _ (by omega)).2.trans (w2 k hk).1, (w2 k hk).2⟩, fun k hk => ⟨(h _ _ (by omega)).2.trans (w3 k hk).1, (w3 k hk).2⟩⟩

theorem c_X11_town {Q : Rq} {M : Mem} {mk t lw pl u lw2 pl2 : Nat} {d : Td} {tp : Nat × (Nat → Int32)} {n : Int32} (hcu : X_cu mk t lw pl d M) (hsp : M.2.2 0 6 = some u) (hu : isTown u) (hl : isLaw lw2) (hp : isPlan pl2) (hlw : M.2.2 u 19 = some lw2) (hpl : M.2.2 u 20 = some pl2) (hlm : X_lm u M) (hy : X_tp tp M) (hwt : ∀ k, k < tp.1 → -128 ≤ (tp.2 k).toInt ∧ (tp.2 k).toInt ≤ 127) (hrs : X_rs M) (k5 : ¬ (0 ≤ n.toInt ∧ n.toInt ≤ (tp.1 : Int) ∧ n.toInt ≤ ((800 : Nat) : Int)) → Q (some (.int (-1))) GX (r_sI M 0 0 (nI 5))) (k10 : ∀ n', n = nI n' → n' ≤ tp.1 → n' ≤ 800 → (¬ (twR (txT tp n')).2.2 = 0) → ∀ M', (∀ o k, ¬ tP u lw2 pl2 mk o k → r_eq3 M M' o k) → M'.1 0 0 = nI 10 → M'.1 40 1 = nI 0 → X_ft (nI (twR (txT tp n')).2.2, nI (tA (txT tp n') (twR (txT tp n')).2.1)) M' → X_lm u M' → M'.2.2 0 6 = some u → M'.2.2 2 mk = some t → Q (some (.int (-1))) GX M') (k0 : ∀ n', n = nI n' → n' ≤ tp.1 → n' ≤ 800 → (twR (txT tp n')).2.2 = 0 → ∀ M', (∀ o k, ¬ tP u lw2 pl2 mk o k → r_eq3 M M' o k) → M'.1 0 0 = nI 0 → M'.1 40 1 = nI 0 → X_ft (nI 0, -1) M' → X_cu mk u lw2 pl2 (twR (txT tp n')).1.1 M' → X_tm u (twR (txT tp n')).1.1 M' → X_bw u (twR (txT tp n')).1 M' → X_lm u M' → M'.2.2 0 6 = some t → Q (some (.int (nI ((twR (txT tp n')).1.1 0)))) GX M') : Ca 6 mt_X11_town 0 0 [.ref 0, .int n] GX M Q := by
  refine Ca_of rfl (Nat.le_of_ble_eq_true rfl) ?_
  have hT : u = 3 ∨ u = 83 ∨ u = 111 ∨ u = 139 ∨ u = 167 := hu
  have hL : lw2 = 22 ∨ lw2 = 31 ∨ lw2 = 102 ∨ lw2 = 130 ∨ lw2 = 158 ∨ lw2 = 186 := hl
  have hP : pl2 = 26 ∨ pl2 = 35 ∨ pl2 = 106 ∨ pl2 = 134 ∨ pl2 = 162 ∨ pl2 = 190 := hp
  have nb40 : ¬ bP u lw2 pl2 40 1 := by
    unfold bP inT
    omega
  have n02 : ∀ o k, o < 3 → ¬ bP u lw2 pl2 o k := fun o k h => by
    unfold bP inT
    omega
  have nu19 : ¬ bP u lw2 pl2 u 19 := by
    unfold bP inT
    omega
  have nu20 : ¬ bP u lw2 pl2 u 20 := by
    unfold bP inT
    omega
  refine Ru_aload_n (pc := 0) dX11_town_0 rfl rfl ?_
  refine Ru_iload_n (pc := 1) dX11_town_1 rfl rfl ?_
  refine Ru_sipush (pc := 2) (nI 800) dX11_town_2 rfl ?_
  refine Ru_cv2 (pc := 5) dX11_town_5 mv_X11_144 rfl (by decide) (Nat.le_of_ble_eq_true rfl) (c_X11_isText (tp := tp) (most := 800) hy (Nat.le_refl _) ?_) 
  refine Ru_if_neB (pc := 8) 17 dX11_town_8 (by decide) (fun h1 => ?_) (fun h1 => ?_)
  · replace h1 := of_decide_eq_true h1
    have hok := h1
    have en : n = nI n.toInt.toNat := nI_pos9 hok.1
    have hn1 : n.toInt.toNat ≤ tp.1 := by omega
    have hn2 : n.toInt.toNat ≤ 800 := by omega
    clear hok k5
    generalize n.toInt.toNat = n' at en hn1 hn2
    subst en
    have tw := txT_w tp hn2
    refine Ru_aload_n (pc := 17) dX11_town_17 rfl rfl ?_
    refine Ru_getR (pc := 18) 40 dX11_town_18 fl_X11_47 rfl rfl (rfX_of (o := 0) (j := 40) rfl rfl) ?_
    refine Ru_iload_n (pc := 21) dX11_town_21 rfl rfl ?_
    refine Ru_cv1 (pc := 22) dX11_town_22 mv_X11_147 rfl (by decide) (Nat.le_of_ble_eq_true rfl) (c_X8_begin (tp := tp) hy hwt hrs hn1 (fun M2 cnt gx2 h12 htk h72 h82 => ?_)) 
    have hr2 : X_rd (txT tp n') cnt (0, 0) M2 := ⟨fun _ => htk, h72, h82⟩
    have gm : ∀ o k, ¬ (o = 40 ∧ (k = 1 ∨ (6 ≤ k ∧ k ≤ 8))) → ¬ (43 ≤ o ∧ o ≤ 45) → r_eq3 M M2 o k := fun o k h1 h2 => gx2 o k (by
      simp [r_in]
      omega)
    have lm2 : X_lm u M2 := ⟨(gm (u + 1) 0 (by omega) (by omega)).1.trans hlm.1, (gm (u + 3) 0 (by omega) (by omega)).1.trans hlm.2.1, (gm (u + 10) 0 (by omega) (by omega)).1.trans hlm.2.2⟩
    have hlw2 : M2.2.2 u 19 = some lw2 := (gm u 19 (by omega) (by omega)).2.2.trans hlw
    have hpl2 : M2.2.2 u 20 = some pl2 := (gm u 20 (by omega) (by omega)).2.2.trans hpl
    have hsp2 : M2.2.2 0 6 = some u := (gm 0 6 (by omega) (by omega)).2.2.trans hsp
    refine Ru_aload_n (pc := 25) dX11_town_25 rfl rfl ?_
    refine Ru_getR (pc := 26) u dX11_town_26 fl_X11_26 rfl rfl ((rfX_mut rfl rfl).trans hsp2) ?_
    refine Ru_aload_n (pc := 29) dX11_town_29 rfl rfl ?_
    refine Ru_getR (pc := 30) 40 dX11_town_30 fl_X11_47 rfl rfl (rfX_of (o := 0) (j := 40) rfl rfl) ?_
    refine Ru_cv1 (pc := 33) dX11_town_33 mv_X11_150 (shTown_0 hu) (by decide) (Nat.le_of_ble_eq_true rfl) (c_X9_build tw hu hl hp hlw2 hpl2 lm2 hr2 (fun M3 ow3 lm3 hr3 hl0 hp0 hp1 hg3 => ?_)) 
    have nb : ∀ o k, ¬ bP u lw2 pl2 o k → ¬ (o = 40 ∧ (k = 1 ∨ (6 ≤ k ∧ k ≤ 8))) → ¬ (43 ≤ o ∧ o ≤ 45) → r_eq3 M M3 o k := fun o k h1 h2 h3 => e3t (gm o k h2 h3) (ow3 o k (by omega) h1)
    have h13 : M3.1 40 1 = nI 0 := (ow3 40 1 (by omega) nb40).1.trans h12
    have e05 := nb 0 5 (n02 0 5 (by decide)) (by omega) (by omega)
    have e06 := nb 0 6 (n02 0 6 (by decide)) (by omega) (by omega)
    have e2k := nb 2 mk (n02 2 mk (by decide)) (by omega) (by omega)
    have euk := nb u 19 nu19 (by omega) (by omega)
    have eup := nb u 20 nu20 (by omega) (by omega)
    refine Ru_if_neB (pc := 36) 46 dX11_town_36 (by decide) (fun h2 => ?_) (fun h2 => ?_)
    · replace h2 := of_decide_eq_true h2
      have hz3 := h2
      refine Ru_aload_n (pc := 46) dX11_town_46 rfl rfl ?_
      refine Ru_cv0 (pc := 47) dX11_town_47 mv_X11_154 rfl (by decide) (Nat.le_of_ble_eq_true rfl) (c_X11_nowR (mk := mk) (t := t) (e05.1.trans hcu.1.1) hcu.1.2.1 (e2k.2.2.trans hcu.1.2.2.1) hcu.1.2.2.2 ?_) 
      refine Ru_astore_n (pc := 50) dX11_town_50 rfl rfl (by decide) ?_
      refine Ru_aload_n (pc := 51) dX11_town_51 rfl rfl ?_
      refine Ru_getR (pc := 52) 2 dX11_town_52 fl_X11_21 rfl rfl (rfX_of (o := 0) (j := 2) rfl rfl) ?_
      refine Ru_aload_n (pc := 55) dX11_town_55 rfl rfl ?_
      refine Ru_getI (pc := 56) dX11_town_56 fl_X11_158 rfl rfl ?_
      refine Ru_top (e05.1.trans hcu.1.1) ?_
      have e6 := e06.2.2.trans hsp
      have hmk := hcu.1.2.1
      refine Ru_aload_n (pc := 59) dX11_town_59 rfl rfl ?_
      refine Ru_getR (pc := 60) u dX11_town_60 fl_X11_26 rfl rfl ((rfX_mut rfl rfl).trans e6) ?_
      refine Ru_aast (T := TX0) (C := "") (kd := 104) (n := 4) (ci := 9) (pc := 63) rfl dX11_town_63 rfl (by decide) (shTown_0 hu) (by omega) ?_
      refine Ru_aload_n (pc := 64) dX11_town_64 rfl rfl ?_
      refine Ru_aload_n (pc := 65) dX11_town_65 rfl rfl ?_
      refine Ru_putR (pc := 66) rfl dX11_town_66 fl_X11_26 rfl (frX_none (o := 0) (ci := 11) (k := 6) rfl rfl) ?_
      refine Ru_aload_n (pc := 69) dX11_town_69 rfl rfl ?_
      refine Ru_aload_n (pc := 70) dX11_town_70 rfl rfl ?_
      refine Ru_cv0 (pc := 71) dX11_town_71 mv_X11_154 rfl (by decide) (Nat.le_of_ble_eq_true rfl) (c_X11_nowR (mk := mk) (t := u) (e05.1.trans hcu.1.1) hcu.1.2.1 (by rw [r_sR_g, if_neg (by omega)]; exact r_sR_s) hu ?_) 
      refine Ru_getR (pc := 74) (u + 1) dX11_town_74 fl_X11_161 (shTown_0 hu) rfl (rfX_of (o := u) (j := 1) (shTown_0 hu) rfl) ?_
      have hm0 := (hg3 hz3).1.1.1
      refine Ru_getI (pc := 77) dX11_town_77 fl_X11_165 (shNames_0 (isNames_t hu).1) rfl ?_
      refine Ru_top hm0 ?_
      refine Ru_cv1 (pc := 80) dX11_town_80 mv_X11_170 rfl (by decide) (Nat.le_of_ble_eq_true rfl) (c_X11_tell ?_) 
      refine Ru_iret (pc := 83) dX11_town_83 rfl ⟨Nat.le_refl _, Nat.le_refl _⟩ ?_
      have hz := twR_z (txT tp n')
      have b21 : bt (fun i => (twR (txT tp n')).1.1 (21 + i)) 8 = 0 := by
        have h9 := bt_cg9 (f := fun i => (twR (txT tp n')).1.1 (21 + i)) (g := fun _ => 0) 8 (fun i hi => hz (21 + i) (by omega))
        rw [h9]
        rfl
      have hm3 := hg3 hz3
      refine k0 n' rfl hn1 hn2 hz3 (r_sI (r_sR (r_sR M3 2 mk (some u)) 0 6 (some t)) 0 0 (nI 0)) (fun o k h => ?_) r_sI_s ((r_sI_n (by decide)).trans h13) ⟨(r_sI_n (by decide)).trans (hr3.2.1.trans (congrArg nI hz3)), (r_sI_n (by decide)).trans (hr3.2.2.trans (if_pos hz3))⟩ ⟨⟨(r_sI_n (by decide)).trans (e05.1.trans hcu.1.1), hcu.1.2.1, ?_, hu⟩, ⟨?_, hl, ?_⟩, ?_, hp, ?_, ?_⟩ ?_ ?_ ?_ ?_
      · unfold tP at h
        have e := nb o k (fun z => h (Or.inl z)) (by omega) (by omega)
        refine ⟨(r_sI_n (by omega)).trans e.1, e.2.1, ?_⟩
        show (r_sR (r_sR M3 2 mk (some u)) 0 6 (some t)).2.2 o k = _
        rw [r_sR_g, if_neg (by omega), r_sR_g, if_neg (by omega)]
        exact e.2.2
      · show (r_sR (r_sR M3 2 mk (some u)) 0 6 (some t)).2.2 2 mk = _
        rw [r_sR_g, if_neg (by omega)]
        exact r_sR_s
      · show (r_sR (r_sR M3 2 mk (some u)) 0 6 (some t)).2.2 u 19 = _
        rw [r_sR_g, if_neg (by omega), r_sR_g, if_neg (by omega)]
        exact euk.2.2.trans hlw
      · exact (r_sI_n (by omega)).trans (hl0.trans (congrArg nI b21.symm))
      · show (r_sR (r_sR M3 2 mk (some u)) 0 6 (some t)).2.2 u 20 = _
        rw [r_sR_g, if_neg (by omega), r_sR_g, if_neg (by omega)]
        exact eup.2.2.trans hpl
      · exact (r_sI_n (by omega)).trans (hp0.trans (congrArg nI (hz 520 (by omega)).symm))
      · exact (r_sI_n (by omega)).trans (hp1.trans (congrArg nI (hz 4 (by omega)).symm))
      · exact X_tm_k0 hu (fun o k ho => r_sI_n (by omega)) hm3.1
      · exact X_bw_k0 hu (fun o k ho => ⟨r_sI_n (by omega), rfl⟩) hm3.2
      · exact ⟨(r_sI_n (by omega)).trans lm3.1, (r_sI_n (by omega)).trans lm3.2.1, (r_sI_n (by omega)).trans lm3.2.2⟩
      · show (r_sR (r_sR M3 2 mk (some u)) 0 6 (some t)).2.2 0 6 = _
        exact r_sR_s
    · replace h2 := of_decide_eq_false h2
      have hzf := h2
      refine Ru_aload_n (pc := 39) dX11_town_39 rfl rfl ?_
      refine Ru_bipush (pc := 40) (nI 10) dX11_town_40 rfl ?_
      refine Ru_cv1 (pc := 42) dX11_town_42 mv_X11_112 rfl (by decide) (Nat.le_of_ble_eq_true rfl) (c_X11_fail ?_) 
      refine Ru_iret (pc := 45) dX11_town_45 rfl ⟨Nat.le_refl _, Nat.le_refl _⟩ ?_
      refine k10 n' rfl hn1 hn2 hzf _ (fun o k h => ?_) r_sI_s ((r_sI_n (by decide)).trans h13) ⟨(r_sI_n (by decide)).trans hr3.2.1, (r_sI_n (by decide)).trans (hr3.2.2.trans (if_neg hzf))⟩ ⟨(r_sI_n (by omega)).trans lm3.1, (r_sI_n (by omega)).trans lm3.2.1, (r_sI_n (by omega)).trans lm3.2.2⟩ (e06.2.2.trans hsp) (e2k.2.2.trans hcu.1.2.2.1)
      unfold tP at h
      have e := nb o k (fun z => h (Or.inl z)) (by omega) (by omega)
      exact ⟨(r_sI_n (by omega)).trans e.1, e.2.1, e.2.2⟩
  · replace h1 := of_decide_eq_false h1
    have hok := h1
    refine Ru_aload_n (pc := 11) dX11_town_11 rfl rfl ?_
    refine Ru_iconst (pc := 12) (nI 5) dX11_town_12 rfl ?_
    refine Ru_cv1 (pc := 13) dX11_town_13 mv_X11_112 rfl (by decide) (Nat.le_of_ble_eq_true rfl) (c_X11_fail ?_) 
    refine Ru_iret (pc := 16) dX11_town_16 rfl ⟨Nat.le_refl _, Nat.le_refl _⟩ ?_
    exact k5 hok
