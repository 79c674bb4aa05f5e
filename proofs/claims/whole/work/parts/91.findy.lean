-- DAYS
theorem f3_hit {d : Td} {A : Nat} {f : Nat → Nat} {s r due w h v : Nat} (h0 : f3 d A f s r due w h v = 0) (hS : mS d s v = true) (hd : f (stA d A s r w h v) = due) : f3 d A f s r due w h (v + 1) = w * 81 + h * 9 + v + 1 := by
  rw [f3, h0, if_neg (by omega), if_pos ⟨hS, hd⟩]
theorem f1_hit {d : Td} {A : Nat} {f : Nat → Nat} {s r due w h v : Nat} (ha : nAl d s w h v) (h1 : f1 d A f s r due w = 0) (h2 : f2 d A f s r due w h = 0) (h3 : f3 d A f s r due w h v = 0) (hd : f (stA d A s r w h v) = due) : f1 d A f s r due (d 0 + 1) = w * 81 + h * 9 + v + 1 := by
  obtain ⟨⟨a1, a2, a3⟩, a4, a5, a6⟩ := ha
  have e3 := f3_hit h3 a6 hd
  have k3 := f3_keep (d := d) (A := A) (f := f) (s := s) (r := r) (due := due) (w := w) (h := h) (n := v + 1) (by omega) (d 0 + 1) (by omega)
  have e2 : f2 d A f s r due w (h + 1) = w * 81 + h * 9 + v + 1 := by
    rw [f2, h2, if_neg (by omega), if_pos a5, k3, e3]
  have k2 := f2_keep (d := d) (A := A) (f := f) (s := s) (r := r) (due := due) (w := w) (n := h + 1) (by omega) (d 0 + 1) (by omega)
  have e1 : f1 d A f s r due (w + 1) = w * 81 + h * 9 + v + 1 := by
    rw [f1, h1, if_neg (by omega), if_pos a4, k2, e2]
  have k1 := f1_keep (d := d) (A := A) (f := f) (s := s) (r := r) (due := due) (n := w + 1) (by omega) (d 0 + 1) (by omega)
  rw [k1, e1]
theorem f1_some (d : Td) (A : Nat) (f : Nat → Nat) (s r : Nat) : f1 d A f s r (nBest d A f s r) (d 0 + 1) ≠ 0 := by
  intro q
  obtain ⟨w, h, v, ⟨⟨a1, a2, a3⟩, a4, a5, a6⟩, b⟩ := nB_ex d A f s r
  exact f1_no _ q w h v (by omega) (by omega) (by omega) a4 a5 ⟨a6, b⟩
/-- the NIGHT that is chosen, by its place -/
def nCho (d : Td) (A s r c : Nat) : Nat → Int32 := fun k => if k = 0 then nM ((c - 1) / 81) else if k = 1 then nM ((c - 1) / 9 % 9) else if k = 2 then nM ((c - 1) % 9) else nI (stA d A s r ((c - 1) / 81) ((c - 1) / 9 % 9) ((c - 1) % 9))
theorem nCho_at {d : Td} {A s r w h v : Nat} (hw : h ≤ 8 ∧ v ≤ 8) : nCho d A s r (w * 81 + h * 9 + v + 1) = fun k => if k = 0 then nM w else if k = 1 then nM h else if k = 2 then nM v else nI (stA d A s r w h v) := by
  have e1 : (w * 81 + h * 9 + v + 1 - 1) / 81 = w := by omega
  have e2 : (w * 81 + h * 9 + v + 1 - 1) / 9 % 9 = h := by omega
  have e3 : (w * 81 + h * 9 + v + 1 - 1) % 9 = v := by omega
  unfold nCho
  rw [e1, e2, e3]
def g_days (d : Td) (s n y : Int32) : Int32 × Nat := if ¬ (0 ≤ s.toInt ∧ s.toInt < ((2 ^ d 0 : Nat) : Int)) then (-1, 2) else if ¬ ((1 ≤ n.toInt ∧ n.toInt ≤ 9) ∧ 0 ≤ y.toInt ∧ y.toInt ≤ 999) then (-1, 5) else (nI (bV d 0 n.toInt.toNat (y.toInt.toNat + n.toInt.toNat - 2) s.toInt.toNat), 0)
/-- what is told of days behind: the steps of the first, its NIGHT -/
def yVt (d : Td) (n y : Nat) : Vt := dA d (BD d 0 (y + n - 2) (n - 1))
def yNx (d : Td) (n y : Nat) : Nat → Nat := fun x => dA d (BD d 0 (y + n - 2) (n - 2)) 0 x
def yCode (d : Td) (s n y : Nat) : Nat := f1 d 0 (yNx d n y) (kEnd d (yVt d n y) (0, s)) (y % 7) (nBest d 0 (yNx d n y) (kEnd d (yVt d n y) (0, s)) (y % 7)) (d 0 + 1)
def yNt (d : Td) (s n y : Nat) (nt : Tl) : Tl := if 1 < n then (true, nCho d 0 (kEnd d (yVt d n y) (0, s)) (y % 7) (yCode d s n y)) else (false, nt.2)
def f_days (d : Td) (s n y : Int32) (x : Sp × Tl) : Sp × Tl := if ¬ (0 ≤ s.toInt ∧ s.toInt < ((2 ^ d 0 : Nat) : Int)) then x else if ¬ ((1 ≤ n.toInt ∧ n.toInt ≤ 9) ∧ 0 ≤ y.toInt ∧ y.toInt ≤ 999) then x else (kSp d (yVt d n.toInt.toNat y.toInt.toNat) (0, s.toInt.toNat), yNt d s.toInt.toNat n.toInt.toNat y.toInt.toNat x.2)
theorem BD_last {d : Td} {n y s : Nat} (hn : 2 ≤ n) : BD d 0 (y + n - 2) (n - 1) s = nBest d 0 (yNx d n y) s (y % 7) := by
  rw [show n - 1 = (n - 2) + 1 by omega]
  show nBest d 0 _ s ((y + n - 2 - (n - 2)) % 7) = _
  rw [show y + n - 2 - (n - 2) = y by omega]
  rfl

theorem l_X12_findNight3 {Q : Rq} {M0 : Mem} {d : Td} {f : Nat → Nat} {s y due : Nat} (hc0 : ∀ k, k < 521 → M0.1 5 k = nI (d k)) (wf : Wf d) (hs : s < 2 ^ d 0) (hy : y < 2000) (hwl : Wl d) (hal0 : M0.1 0 29 = nI 0) (hf0 : ∀ x, x < 2 ^ d 0 → M0.1 18 x = nI (f x)) (hfC : ∀ x, f x ≤ 100000000) (hdue : due < 2147483648) {w h : Nat} (hw : w ≤ d 0) (hh : h ≤ d 0) (hmw : mW d s w = true) (q1 : f1 d 0 f s (y % 7) due w = 0) (q2 : f2 d 0 f s (y % 7) due w h = 0) (kf : ∀ M' w h v, nAl d s w h v → f1 d 0 f s (y % 7) due (d 0 + 1) = w * 81 + h * 9 + v + 1 → r_fx [] [7, 13] M0 M' → (M'.1 13 0 = nM w ∧ M'.1 13 1 = nM h ∧ M'.1 13 2 = nM v ∧ M'.1 13 3 = nI (stA d 0 s (y % 7) w h v)) → Q none GY M') (k : ∀ M, r_fx [] [7, 13] M0 M → (mH d s h = true → f3 d 0 f s (y % 7) due w h (d 0 + 1) = 0) → Ru 4 mt_X12_findNight r_z 149 [(1, some (.int (nI s))), (2, some (.int (nI y))), (3, some (.int (nI due))), (4, some (.int (nM w))), (5, some (.int (nM h))), (0, some (.ref 0))] [] GY M Q) : ∀ (zw : Nat) (n : Nat) (M : Mem), d 0 + 1 - n = zw → (n ≤ d 0 + 1) → (f3 d 0 f s (y % 7) due w h n = 0) → (n = 0 ∨ mH d s h = true) → (r_fx [] [7, 13] M0 M) → Ru 4 mt_X12_findNight r_z 48 [(6, some (.int (nM n))), (4, some (.int (nM w))), (5, some (.int (nM h))), (1, some (.int (nI s))), (2, some (.int (nI y))), (3, some (.int (nI due))), (0, some (.ref 0))] [] GY M Q := by
  intro zw
  induction zw using Nat.strongRecOn with
  | ind zw ih =>
    intro n M hw hn q3 hm fx
    subst hw
    have hb := wf.1
    have hp := pw_le hb.1
    have em : (-1 : Int32).toInt = -1 := rfl
    have hc : ∀ k, k < 521 → M.1 5 k = nI (d k) := fun k hk => (fx 5 k rfl).1.trans (hc0 k hk)
    have hal : M.1 0 29 = nI 0 := (fx 0 29 rfl).1.trans hal0
    have hzn := nM_t (show n < 2147483648 by omega)
    refine Ru_iload (pc := 48) dX12_findNight_48 rfl ?_
    refine Ru_aload_n (pc := 50) dX12_findNight_50 rfl rfl ?_
    refine Ru_getR (pc := 51) 5 dX12_findNight_51 fl_X12_35 rfl rfl rfl ?_
    refine Ru_iconst (pc := 54) (nI 0) dX12_findNight_54 rfl ?_
    refine Ru_iald (pc := 55) dX12_findNight_55 rfl (by omega) ?_
    refine Ru_top (hc 0 (by omega)) ?_
    refine Ru_icmp_geL (pc := 56) 149 dX12_findNight_56 (by decide) (by omega) (fun h1 => ?_) (fun h1 => ?_)
    · have en : n = d 0 + 1 := by omega
      subst en
      exact Ru_weak (k M fx (fun _ => q3)) rfl
    · refine Ru_aload_n (pc := 59) dX12_findNight_59 rfl rfl ?_
      refine Ru_iload (pc := 60) dX12_findNight_60 rfl ?_
      refine Ru_iload_n (pc := 62) dX12_findNight_62 rfl rfl ?_
      refine Ru_cv2 (pc := 63) dX12_findNight_63 mv_X12_397 rfl (by decide) (Nat.le_of_ble_eq_true rfl) (c_X12_mayHold h hc wf (by omega) (by omega) ?_) 
      refine Ru_if_eqB (pc := 66) 149 dX12_findNight_66 (by decide) (fun h2 => ?_) (fun h2 => ?_)
      · have z : mH d s h = false := by assumption
        exact Ru_weak (k M fx (fun q => by rw [z] at q; cases q)) rfl
      · refine Ru_aload_n (pc := 69) dX12_findNight_69 rfl rfl ?_
        refine Ru_iload (pc := 70) dX12_findNight_70 rfl ?_
        refine Ru_iload_n (pc := 72) dX12_findNight_72 rfl rfl ?_
        refine Ru_cv2 (pc := 73) dX12_findNight_73 mv_X12_400 rfl (by decide) (Nat.le_of_ble_eq_true rfl) (c_X12_maySend n hc wf (by omega) (by omega) ?_) 
        refine Ru_if_neB (pc := 76) 82 dX12_findNight_76 (by decide) (fun h3 => ?_) (fun h3 => ?_)
        · refine Ru_aload_n (pc := 82) dX12_findNight_82 rfl rfl ?_
          refine Ru_iload_n (pc := 83) dX12_findNight_83 rfl rfl ?_
          refine Ru_iload (pc := 84) dX12_findNight_84 rfl ?_
          refine Ru_iload (pc := 86) dX12_findNight_86 rfl ?_
          refine Ru_iload (pc := 88) dX12_findNight_88 rfl ?_
          refine Ru_iload_n (pc := 90) dX12_findNight_90 rfl rfl ?_
          refine Ru_cv5 (pc := 91) dX12_findNight_91 mv_X12_403 rfl (by decide) (Nat.le_of_ble_eq_true rfl) (c_X12_staysOf (A := 0) (w := w) (h := h) (v := n) hc wf (by omega) ⟨by omega, by omega, by omega⟩ hy (by decide) hwl hal (fun M2 gx2 => ?_)) 
          have fx2 : r_fx [] [7, 13] M0 M2 := fx.tr (gx2.mono rfl)
          have hst := stA_lt d 0 s (y % 7) w h n
          have hfb := hfC (stA d 0 s (y % 7) w h n)
          refine Ru_istore (pc := 94) dX12_findNight_94 rfl (by decide) ?_
          refine Ru_aload_n (pc := 96) dX12_findNight_96 rfl rfl ?_
          refine Ru_getR (pc := 97) 18 dX12_findNight_97 fl_X12_75 rfl rfl rfl ?_
          refine Ru_iload (pc := 100) dX12_findNight_100 rfl ?_
          refine Ru_iald (pc := 102) dX12_findNight_102 rfl (by omega) ?_
          refine Ru_top ((fx2 18 _ rfl).1.trans (hf0 _ hst)) ?_
          refine Ru_iload_n (pc := 103) dX12_findNight_103 rfl rfl ?_
          refine Ru_icmp_eqN (pc := 104) 110 dX12_findNight_104 (by decide) (by omega) (fun h4 => ?_) (fun h4 => ?_)
          · refine Ru_aload_n (pc := 110) dX12_findNight_110 rfl rfl ?_
            refine Ru_getR (pc := 111) 13 dX12_findNight_111 fl_X12_60 rfl rfl rfl ?_
            refine Ru_iconst (pc := 114) (nI 0) dX12_findNight_114 rfl ?_
            refine Ru_iload (pc := 115) dX12_findNight_115 rfl ?_
            refine Ru_iast (pc := 117) rfl dX12_findNight_117 rfl (by omega) ?_
            refine Ru_aload_n (pc := 118) dX12_findNight_118 rfl rfl ?_
            refine Ru_getR (pc := 119) 13 dX12_findNight_119 fl_X12_60 rfl rfl rfl ?_
            refine Ru_iconst (pc := 122) (nI 1) dX12_findNight_122 rfl ?_
            refine Ru_iload (pc := 123) dX12_findNight_123 rfl ?_
            refine Ru_iast (pc := 125) rfl dX12_findNight_125 rfl (by omega) ?_
            refine Ru_aload_n (pc := 126) dX12_findNight_126 rfl rfl ?_
            refine Ru_getR (pc := 127) 13 dX12_findNight_127 fl_X12_60 rfl rfl rfl ?_
            refine Ru_iconst (pc := 130) (nI 2) dX12_findNight_130 rfl ?_
            refine Ru_iload (pc := 131) dX12_findNight_131 rfl ?_
            refine Ru_iast (pc := 133) rfl dX12_findNight_133 rfl (by omega) ?_
            refine Ru_aload_n (pc := 134) dX12_findNight_134 rfl rfl ?_
            refine Ru_getR (pc := 135) 13 dX12_findNight_135 fl_X12_60 rfl rfl rfl ?_
            refine Ru_iconst (pc := 138) (nI 3) dX12_findNight_138 rfl ?_
            refine Ru_iload (pc := 139) dX12_findNight_139 rfl ?_
            refine Ru_iast (pc := 141) rfl dX12_findNight_141 rfl (by omega) ?_
            refine Ru_vret (pc := 142) dX12_findNight_142 rfl ⟨Nat.le_refl _, Nat.le_refl _⟩ ?_
            have ha : nAl d s w h n := ⟨⟨by omega, by omega, by omega⟩, hmw, by assumption, by assumption⟩
            exact kf _ w h n ha (f1_hit ha q1 q2 q3 (by omega)) (r_fx.sI rfl (r_fx.sI rfl (r_fx.sI rfl (r_fx.sI rfl fx2)))) ⟨by simp [r_sI_g], by simp [r_sI_g], by simp [r_sI_g], by simp [r_sI_g]⟩
          · refine Ru_goto (pc := 107) 143 dX12_findNight_107 (by decide) ?_
            refine Ru_iinc (pc := 143) _ dX12_findNight_143 rfl rfl rfl (by decide) ?_
            refine Ru_goto (pc := 146) 48 dX12_findNight_146 (by decide) ?_
            have e : f3 d 0 f s (y % 7) due w h (n + 1) = 0 := by
              rw [f3, q3, if_neg (by omega), if_neg]
              rintro ⟨z1, z2⟩
              omega
            rw [nM_inc (by omega)]
            exact Ru_weak (ih (d 0 + 1 - (n + 1)) (by omega) (n + 1) M2 rfl (by omega) e (Or.inr (by assumption)) fx2) rfl
        · refine Ru_goto (pc := 79) 143 dX12_findNight_79 (by decide) ?_
          refine Ru_iinc (pc := 143) _ dX12_findNight_143 rfl rfl rfl (by decide) ?_
          refine Ru_goto (pc := 146) 48 dX12_findNight_146 (by decide) ?_
          have e : f3 d 0 f s (y % 7) due w h (n + 1) = 0 := by
            have z : mS d s n = false := by assumption
            rw [f3, q3, if_neg (by omega), if_neg]
            rintro ⟨z1, z2⟩
            rw [z] at z1
            cases z1
          rw [nM_inc (by omega)]
          exact Ru_weak (ih (d 0 + 1 - (n + 1)) (by omega) (n + 1) M rfl (by omega) e (Or.inr (by assumption)) fx) rfl

theorem l_X12_findNight2 {Q : Rq} {M0 : Mem} {d : Td} {f : Nat → Nat} {s y due : Nat} (hc0 : ∀ k, k < 521 → M0.1 5 k = nI (d k)) (wf : Wf d) (hs : s < 2 ^ d 0) (hy : y < 2000) (hwl : Wl d) (hal0 : M0.1 0 29 = nI 0) (hf0 : ∀ x, x < 2 ^ d 0 → M0.1 18 x = nI (f x)) (hfC : ∀ x, f x ≤ 100000000) (hdue : due < 2147483648) {w : Nat} (hw : w ≤ d 0) (q1 : f1 d 0 f s (y % 7) due w = 0) (kf : ∀ M' w h v, nAl d s w h v → f1 d 0 f s (y % 7) due (d 0 + 1) = w * 81 + h * 9 + v + 1 → r_fx [] [7, 13] M0 M' → (M'.1 13 0 = nM w ∧ M'.1 13 1 = nM h ∧ M'.1 13 2 = nM v ∧ M'.1 13 3 = nI (stA d 0 s (y % 7) w h v)) → Q none GY M') (k : ∀ M, r_fx [] [7, 13] M0 M → (mW d s w = true → f2 d 0 f s (y % 7) due w (d 0 + 1) = 0) → Ru 4 mt_X12_findNight r_z 155 [(1, some (.int (nI s))), (2, some (.int (nI y))), (3, some (.int (nI due))), (4, some (.int (nM w))), (0, some (.ref 0))] [] GY M Q) : ∀ (zw : Nat) (n : Nat) (M : Mem), d 0 + 1 - n = zw → (n ≤ d 0 + 1) → (f2 d 0 f s (y % 7) due w n = 0) → (n = 0 ∨ mW d s w = true) → (r_fx [] [7, 13] M0 M) → Ru 4 mt_X12_findNight r_z 24 [(5, some (.int (nM n))), (4, some (.int (nM w))), (1, some (.int (nI s))), (2, some (.int (nI y))), (3, some (.int (nI due))), (0, some (.ref 0))] [] GY M Q := by
  intro zw
  induction zw using Nat.strongRecOn with
  | ind zw ih =>
    intro n M hw hn q2 hm fx
    subst hw
    have hb := wf.1
    have hp := pw_le hb.1
    have em : (-1 : Int32).toInt = -1 := rfl
    have hc : ∀ k, k < 521 → M.1 5 k = nI (d k) := fun k hk => (fx 5 k rfl).1.trans (hc0 k hk)
    have hal : M.1 0 29 = nI 0 := (fx 0 29 rfl).1.trans hal0
    have hzn := nM_t (show n < 2147483648 by omega)
    refine Ru_iload (pc := 24) dX12_findNight_24 rfl ?_
    refine Ru_aload_n (pc := 26) dX12_findNight_26 rfl rfl ?_
    refine Ru_getR (pc := 27) 5 dX12_findNight_27 fl_X12_35 rfl rfl rfl ?_
    refine Ru_iconst (pc := 30) (nI 0) dX12_findNight_30 rfl ?_
    refine Ru_iald (pc := 31) dX12_findNight_31 rfl (by omega) ?_
    refine Ru_top (hc 0 (by omega)) ?_
    refine Ru_icmp_geL (pc := 32) 155 dX12_findNight_32 (by decide) (by omega) (fun h1 => ?_) (fun h1 => ?_)
    · have en : n = d 0 + 1 := by omega
      subst en
      exact Ru_weak (k M fx (fun _ => q2)) rfl
    · refine Ru_aload_n (pc := 35) dX12_findNight_35 rfl rfl ?_
      refine Ru_iload (pc := 36) dX12_findNight_36 rfl ?_
      refine Ru_iload_n (pc := 38) dX12_findNight_38 rfl rfl ?_
      refine Ru_cv2 (pc := 39) dX12_findNight_39 mv_X12_394 rfl (by decide) (Nat.le_of_ble_eq_true rfl) (c_X12_mayWear w hc wf (by omega) (by omega) ?_) 
      refine Ru_if_eqB (pc := 42) 155 dX12_findNight_42 (by decide) (fun h2 => ?_) (fun h2 => ?_)
      · have z : mW d s w = false := by assumption
        exact Ru_weak (k M fx (fun q => by rw [z] at q; cases q)) rfl
      · refine Ru_iconst (pc := 45) (-1) dX12_findNight_45 rfl ?_
        refine Ru_istore (pc := 46) dX12_findNight_46 rfl (by decide) ?_
        have hmw : mW d s w = true := by assumption
        refine Ru_weak (l_X12_findNight3 (M0 := M0) (w := w) (h := n) hc0 wf hs hy hwl hal0 hf0 hfC hdue hw (by omega) hmw q1 q2 kf (fun M2 gx2 g3 => ?_) (d 0 + 1) 0 M rfl (Nat.zero_le _) rfl (Or.inl rfl) fx) rfl
        refine Ru_iinc (pc := 149) _ dX12_findNight_149 rfl rfl rfl (by decide) ?_
        refine Ru_goto (pc := 152) 24 dX12_findNight_152 (by decide) ?_
        rw [nM_inc (by omega)]
        have e : f2 d 0 f s (y % 7) due w (n + 1) = 0 := by
          rw [f2, q2, if_neg (by omega)]
          split
          · exact g3 (by assumption)
          · rfl
        exact Ru_weak (ih (d 0 + 1 - (n + 1)) (by omega) (n + 1) M2 rfl (by omega) e (Or.inr hmw) gx2) rfl

theorem l_X12_findNight1 {Q : Rq} {M0 : Mem} {d : Td} {f : Nat → Nat} {s y due : Nat} (hc0 : ∀ k, k < 521 → M0.1 5 k = nI (d k)) (wf : Wf d) (hs : s < 2 ^ d 0) (hy : y < 2000) (hwl : Wl d) (hal0 : M0.1 0 29 = nI 0) (hf0 : ∀ x, x < 2 ^ d 0 → M0.1 18 x = nI (f x)) (hfC : ∀ x, f x ≤ 100000000) (hdue : due < 2147483648) (hsome : f1 d 0 f s (y % 7) due (d 0 + 1) ≠ 0) (kf : ∀ M' w h v, nAl d s w h v → f1 d 0 f s (y % 7) due (d 0 + 1) = w * 81 + h * 9 + v + 1 → r_fx [] [7, 13] M0 M' → (M'.1 13 0 = nM w ∧ M'.1 13 1 = nM h ∧ M'.1 13 2 = nM v ∧ M'.1 13 3 = nI (stA d 0 s (y % 7) w h v)) → Q none GY M') : ∀ (zw : Nat) (n : Nat) (M : Mem), d 0 + 1 - n = zw → (n ≤ d 0 + 1) → (f1 d 0 f s (y % 7) due n = 0) → (r_fx [] [7, 13] M0 M) → Ru 4 mt_X12_findNight r_z 10 [(4, some (.int (nM n))), (1, some (.int (nI s))), (2, some (.int (nI y))), (3, some (.int (nI due))), (0, some (.ref 0))] [] GY M Q := by
  intro zw
  induction zw using Nat.strongRecOn with
  | ind zw ih =>
    intro n M hw hn q1 fx
    subst hw
    have hb := wf.1
    have hp := pw_le hb.1
    have em : (-1 : Int32).toInt = -1 := rfl
    have hc : ∀ k, k < 521 → M.1 5 k = nI (d k) := fun k hk => (fx 5 k rfl).1.trans (hc0 k hk)
    have hal : M.1 0 29 = nI 0 := (fx 0 29 rfl).1.trans hal0
    have hzn := nM_t (show n < 2147483648 by omega)
    refine Ru_iload (pc := 10) dX12_findNight_10 rfl ?_
    refine Ru_aload_n (pc := 12) dX12_findNight_12 rfl rfl ?_
    refine Ru_getR (pc := 13) 5 dX12_findNight_13 fl_X12_35 rfl rfl rfl ?_
    refine Ru_iconst (pc := 16) (nI 0) dX12_findNight_16 rfl ?_
    refine Ru_iald (pc := 17) dX12_findNight_17 rfl (by omega) ?_
    refine Ru_top (hc 0 (by omega)) ?_
    refine Ru_icmp_geL (pc := 18) 161 dX12_findNight_18 (by decide) (by omega) (fun h1 => ?_) (fun h1 => ?_)
    · refine Ru_vret (pc := 161) dX12_findNight_161 rfl ⟨Nat.le_refl _, Nat.le_refl _⟩ ?_
      exfalso
      have en : n = d 0 + 1 := by omega
      subst en
      exact hsome q1
    · refine Ru_iconst (pc := 21) (-1) dX12_findNight_21 rfl ?_
      refine Ru_istore (pc := 22) dX12_findNight_22 rfl (by decide) ?_
      refine Ru_weak (l_X12_findNight2 (M0 := M0) (w := n) hc0 wf hs hy hwl hal0 hf0 hfC hdue (by omega) q1 kf (fun M2 gx2 g2 => ?_) (d 0 + 1) 0 M rfl (Nat.zero_le _) rfl (Or.inl rfl) fx) rfl
      refine Ru_iinc (pc := 155) _ dX12_findNight_155 rfl rfl rfl (by decide) ?_
      refine Ru_goto (pc := 158) 10 dX12_findNight_158 (by decide) ?_
      rw [nM_inc (by omega)]
      have e : f1 d 0 f s (y % 7) due (n + 1) = 0 := by
        rw [f1, q1, if_neg (by omega)]
        split
        · exact g2 (by assumption)
        · rfl
      exact Ru_weak (ih (d 0 + 1 - (n + 1)) (by omega) (n + 1) M2 rfl (by omega) e gx2) rfl

theorem c_X12_findNight {Q : Rq} {M : Mem} {d : Td} {f : Nat → Nat} {s y due : Nat} (hc0 : ∀ k, k < 521 → M.1 5 k = nI (d k)) (wf : Wf d) (hs : s < 2 ^ d 0) (hy : y < 2000) (hwl : Wl d) (hal0 : M.1 0 29 = nI 0) (hf0 : ∀ x, x < 2 ^ d 0 → M.1 18 x = nI (f x)) (hfC : ∀ x, f x ≤ 100000000) (hdue : due < 2147483648) (hsome : f1 d 0 f s (y % 7) due (d 0 + 1) ≠ 0) (hdue0 : M.1 10 s = nI due) (kf : ∀ M' w h v, nAl d s w h v → f1 d 0 f s (y % 7) due (d 0 + 1) = w * 81 + h * 9 + v + 1 → r_fx [] [7, 13] M M' → (M'.1 13 0 = nM w ∧ M'.1 13 1 = nM h ∧ M'.1 13 2 = nM v ∧ M'.1 13 3 = nI (stA d 0 s (y % 7) w h v)) → Q none GY M') : Ca 4 mt_X12_findNight 0 0 [.ref 0, .int (nI s), .int (nI y)] GY M Q := by
  refine Ca_of rfl (Nat.le_of_ble_eq_true rfl) ?_
  have hp := pw_le wf.1.1
  refine Ru_aload_n (pc := 0) dX12_findNight_0 rfl rfl ?_
  refine Ru_getR (pc := 1) 10 dX12_findNight_1 fl_X12_51 rfl rfl rfl ?_
  refine Ru_iload_n (pc := 4) dX12_findNight_4 rfl rfl ?_
  refine Ru_iald (pc := 5) dX12_findNight_5 rfl (by omega) ?_
  refine Ru_top hdue0 ?_
  refine Ru_istore_n (pc := 6) dX12_findNight_6 rfl rfl (by decide) ?_
  refine Ru_iconst (pc := 7) (-1) dX12_findNight_7 rfl ?_
  refine Ru_istore (pc := 8) dX12_findNight_8 rfl (by decide) ?_
  exact Ru_weak (l_X12_findNight1 (M0 := M) hc0 wf hs hy hwl hal0 hf0 hfC hdue hsome kf (d 0 + 1) 0 M rfl (Nat.zero_le _) rfl r_fx.rf) rfl
