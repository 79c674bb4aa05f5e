-- A DAY THAT IS WALKED
def kNf (d : Td) (V : Vt) (p : Nat × Nat) : Nat → Nat → Nat
  | 0, _ => 0
  | f + 1, i => if (kTr d V p i).1 < 24 then kNf d V p f (i + 1) else i
def kN (d : Td) (V : Vt) (p : Nat × Nat) : Nat := kNf d V p 25 0
theorem kNf_of {d : Td} {V : Vt} {p : Nat × Nat} {i : Nat} (h : ∀ j, j < i → (kTr d V p j).1 < 24) (h2 : ¬ (kTr d V p i).1 < 24) : ∀ f i0, i0 ≤ i → i < i0 + f → kNf d V p f i0 = i
  | 0, i0, h3, h4 => by omega
  | f + 1, i0, h3, h4 => by
    rw [kNf]
    by_cases e : i0 = i
    · subst e
      rw [if_neg h2]
    · rw [if_pos (h i0 (by omega))]
      exact kNf_of h h2 f (i0 + 1) (by omega) (by omega)
theorem kN_of {d : Td} {V : Vt} {p : Nat × Nat} {i : Nat} (h : ∀ j, j < i → (kTr d V p j).1 < 24) (h2 : ¬ (kTr d V p i).1 < 24) (hi : i ≤ 24) : kN d V p = i := kNf_of h h2 25 0 (Nat.zero_le _) (by omega)
def kSp (d : Td) (V : Vt) (p : Nat × Nat) : Sp := (kN d V p, fun i => nM (kBst d V (kTr d V p i)), fun i => nI (kTr d V p i).1)
def kEnd (d : Td) (V : Vt) (p : Nat × Nat) : Nat := (wT d 24 (kTr d V p (kN d V p)).2).1
theorem dFs_keep {d : Td} {V : Vt} {t s due n : Nat} (h : dFs d V t s due n ≠ 0) : ∀ m, n ≤ m → dFs d V t s due m = dFs d V t s due n
  | 0, hm => by
    have : n = 0 := by omega
    subst this
    rfl
  | m + 1, hm => by
    by_cases e : n = m + 1
    · subst e
      rfl
    · have ih := dFs_keep h m (by omega)
      rw [dFs, ih, if_pos h]
theorem kTr_i {d : Td} (wf : Wf d) {V : Vt} {p : Nat × Nat} {i : Nat} (h : ∀ j, j < i → (kTr d V p j).1 < 24) (h0 : p.1 ≤ 24) : i ≤ (kTr d V p i).1 ∧ (kTr d V p i).1 ≤ 24 := by
  induction i with
  | zero => exact ⟨Nat.zero_le _, h0⟩
  | succ i ih =>
    have h1 := ih (fun j hj => h j (by omega))
    have h2 := kNx_t wf (V := V) (h i (by omega))
    show i + 1 ≤ (kNx d V (kTr d V p i)).1 ∧ (kNx d V (kTr d V p i)).1 ≤ 24
    omega
theorem kTr_s {d : Td} (wf : Wf d) {V : Vt} {p : Nat × Nat} (h : p.2 < 2 ^ d 0) : ∀ i, (kTr d V p i).2 < 2 ^ d 0
  | 0 => h
  | i + 1 => kNx_s wf (kTr_s wf h i)
theorem kEnd_lt {d : Td} (wf : Wf d) {V : Vt} {p : Nat × Nat} (h : p.2 < 2 ^ d 0) : kEnd d V p < 2 ^ d 0 := by
  have := kTr_s wf (V := V) h (kN d V p)
  have := wT_le d 24 (kTr d V p (kN d V p)).2
  unfold kEnd
  omega
def vZ (d : Td) : Vt := dA d (fun _ => 0)
def g_day (d : Td) (s t : Int32) : Int32 × Nat := if ¬ (0 ≤ s.toInt ∧ s.toInt < ((2 ^ d 0 : Nat) : Int)) then (-1, 2) else if ¬ (0 ≤ t.toInt ∧ t.toInt ≤ 24) then (-1, 5) else (nI (vZ d t.toInt.toNat s.toInt.toNat), 0)
def f_daySp (d : Td) (s t : Int32) (sp : Sp) : Sp := if ¬ (0 ≤ s.toInt ∧ s.toInt < ((2 ^ d 0 : Nat) : Int)) then sp else if ¬ (0 ≤ t.toInt ∧ t.toInt ≤ 24) then sp else kSp d (vZ d) (t.toInt.toNat, s.toInt.toNat)
def g_price (d : Td) (t y s : Int32) : Int32 × Nat := if ¬ ((0 ≤ t.toInt ∧ t.toInt < d 0) ∧ 0 ≤ s.toInt ∧ s.toInt < ((2 ^ d 0 : Nat) : Int)) then (-1, 2) else if ¬ (0 ≤ y.toInt ∧ y.toInt ≤ 24) then (-1, 5) else (nI (vZ d y.toInt.toNat (s.toInt.toNat ||| 2 ^ t.toInt.toNat)) - nI (vZ d y.toInt.toNat (r_dif s.toInt.toNat (2 ^ t.toInt.toNat))), 0)

theorem l_X12_walkDay1 {Q : Rq} {M0 : Mem} {d : Td} {V : Vt} {t s due from0 time0 : Nat} (hc0 : ∀ k, k < 521 → M0.1 5 k = nI (d k)) (wf : Wf d) (ht : t < 24) (hs : s < 2 ^ d 0) (hdue : due < 2147483648) (hV0 : ∀ t' s', t < t' → t' ≤ 24 → s' < 2 ^ d 0 → M0.1 8 (256 * t' + s') = nI (V t' s')) (hVb : ∀ t' s', V t' s' ≤ 100000000) (k : ∀ M, r_fx [(0, 45), (0, 46), (0, 47)] [] M0 M → Ru 4 mt_X12_walkDay r_z 112 [(6, some (.int (nM (dFs d V t s due (d 1))))), (1, some (.int (nI from0))), (2, some (.int (nI time0))), (3, some (.int (nI t))), (4, some (.int (nI s))), (0, some (.ref 0))] [] GY M Q) : ∀ (zw : Nat) (n : Nat) (M : Mem), d 1 - n = zw → (n ≤ d 1) → (r_fx [(0, 45), (0, 46), (0, 47)] [] M0 M) → Ru 4 mt_X12_walkDay r_z 44 [(6, some (.int (nM (dFs d V t s due n)))), (7, some (.int (nI n))), (5, some (.int (nI due))), (1, some (.int (nI from0))), (2, some (.int (nI time0))), (3, some (.int (nI t))), (4, some (.int (nI s))), (0, some (.ref 0))] [] GY M Q := by
  intro zw
  induction zw using Nat.strongRecOn with
  | ind zw ih =>
    intro n M hw hn fx
    subst hw
    have hb := wf.1
    have hp := pw_le hb.1
    have hc : ∀ k, k < 521 → M.1 5 k = nI (d k) := fun k hk => (fx 5 k rfl).1.trans (hc0 k hk)
    have hV : ∀ t' s', t < t' → t' ≤ 24 → s' < 2 ^ d 0 → M.1 8 (256 * t' + s') = nI (V t' s') := fun t' s' h1 h2 h3 => (fx 8 _ rfl).1.trans (hV0 t' s' h1 h2 h3)
    have hle := dFs_le (d := d) (V := V) (t := t) (s := s) (due := due) n
    have hz : (nM (dFs d V t s due n)).toInt = ((dFs d V t s due n) : Int) - 1 := nM_t (by omega)
    refine Ru_iload (pc := 44) dX12_walkDay_44 rfl ?_
    refine Ru_aload_n (pc := 46) dX12_walkDay_46 rfl rfl ?_
    refine Ru_getR (pc := 47) 5 dX12_walkDay_47 fl_X12_35 rfl rfl rfl ?_
    refine Ru_iconst (pc := 50) (nI 1) dX12_walkDay_50 rfl ?_
    refine Ru_iald (pc := 51) dX12_walkDay_51 rfl (by omega) ?_
    refine Ru_top (hc 1 (by omega)) ?_
    refine Ru_icmp_geN (pc := 52) 112 dX12_walkDay_52 (by decide) (by omega) (fun h1 => ?_) (fun h1 => ?_)
    · have en : n = d 1 := by omega
      subst en
      exact Ru_weak (k _ fx) rfl
    · refine Ru_iload (pc := 55) dX12_walkDay_55 rfl ?_
      refine Ru_if_geT (pc := 57) 112 dX12_walkDay_57 (by decide) (fun h2 => ?_) (fun h2 => ?_)
      · have ek := dFs_keep (d := d) (V := V) (t := t) (s := s) (due := due) (n := n) (by omega) (d 1) (by omega)
        rw [← ek]
        exact Ru_weak (k _ fx) rfl
      · have hz0 : dFs d V t s due n = 0 := by omega
        rw [hz0]
        refine Ru_weak (L' := [(6, some (.int (-1))), (7, some (.int (nI n))), (5, some (.int (nI due))), (1, some (.int (nI from0))), (2, some (.int (nI time0))), (3, some (.int (nI t))), (4, some (.int (nI s))), (0, some (.ref 0))]) ?_ rfl
        have hm5 := wf.2.2.2.2.1 n (by omega)
        have hbm := dBm_b2 wf (t := t) (s := s) (show n < d 1 by omega) hVb
        refine Ru_aload_n (pc := 60) dX12_walkDay_60 rfl rfl ?_
        refine Ru_iload (pc := 61) dX12_walkDay_61 rfl ?_
        refine Ru_iload (pc := 63) dX12_walkDay_63 rfl ?_
        refine Ru_cv2 (pc := 65) dX12_walkDay_65 mv_X12_421 rfl (by decide) (Nat.le_of_ble_eq_true rfl) (c_X12_canMake hc wf (by omega) ?_) 
        refine Ru_if_eqB (pc := 68) 106 dX12_walkDay_68 (by decide) (fun h3 => ?_) (fun h3 => ?_)
        · refine Ru_iincN (pc := 106) 1 dX12_walkDay_106 rfl rfl rfl (by decide) ?_
          refine Ru_goto (pc := 109) 44 dX12_walkDay_109 (by decide) ?_
          have e : dFs d V t s due (n + 1) = 0 := by
            rw [dFs, if_neg (by omega), if_neg]
            rintro ⟨⟨z1, z2⟩, z3⟩
            simp_all
          have hr := ih (d 1 - (n + 1)) (by omega) (n + 1) M rfl (by omega) fx
          rw [e] at hr
          exact Ru_weak hr rfl
        · refine Ru_iload_n (pc := 71) dX12_walkDay_71 rfl rfl ?_
          refine Ru_aload_n (pc := 72) dX12_walkDay_72 rfl rfl ?_
          refine Ru_getR (pc := 73) 5 dX12_walkDay_73 fl_X12_35 rfl rfl rfl ?_
          refine Ru_bipush (pc := 76) (nI 41) dX12_walkDay_76 rfl ?_
          refine Ru_iload (pc := 78) dX12_walkDay_78 rfl ?_
          refine Ru_iaddN (pc := 80) dX12_walkDay_80 ?_
          refine Ru_iald (pc := 81) dX12_walkDay_81 rfl (by omega) ?_
          refine Ru_top (hc (41 + n) (by omega)) ?_
          refine Ru_iaddN (pc := 82) dX12_walkDay_82 ?_
          refine Ru_bipush (pc := 83) (nI 25) dX12_walkDay_83 rfl ?_
          refine Ru_icmp_geN (pc := 85) 106 dX12_walkDay_85 (by decide) (by omega) (fun h4 => ?_) (fun h4 => ?_)
          · refine Ru_iincN (pc := 106) 1 dX12_walkDay_106 rfl rfl rfl (by decide) ?_
            refine Ru_goto (pc := 109) 44 dX12_walkDay_109 (by decide) ?_
            have e : dFs d V t s due (n + 1) = 0 := by
              rw [dFs, if_neg (by omega), if_neg]
              rintro ⟨⟨z1, z2⟩, z3⟩
              omega
            have hr := ih (d 1 - (n + 1)) (by omega) (n + 1) M rfl (by omega) fx
            rw [e] at hr
            exact Ru_weak hr rfl
          · refine Ru_aload_n (pc := 88) dX12_walkDay_88 rfl rfl ?_
            refine Ru_iload (pc := 89) dX12_walkDay_89 rfl ?_
            refine Ru_iload_n (pc := 91) dX12_walkDay_91 rfl rfl ?_
            refine Ru_iload (pc := 92) dX12_walkDay_92 rfl ?_
            refine Ru_cv3 (pc := 94) dX12_walkDay_94 mv_X12_439 rfl (by decide) (Nat.le_of_ble_eq_true rfl) (c_X12_byMaking (V := V) hc wf (by omega) (by omega) hs hV (fun M2 gx2 => ?_)) 
            have fx2 := fx.tr gx2
            refine Ru_iload (pc := 97) dX12_walkDay_97 rfl ?_
            refine Ru_icmp_neN (pc := 99) 106 dX12_walkDay_99 (by decide) (by omega) (fun h5 => ?_) (fun h5 => ?_)
            · refine Ru_iincN (pc := 106) 1 dX12_walkDay_106 rfl rfl rfl (by decide) ?_
              refine Ru_goto (pc := 109) 44 dX12_walkDay_109 (by decide) ?_
              have e : dFs d V t s due (n + 1) = 0 := by
                rw [dFs, if_neg (by omega), if_neg]
                rintro ⟨⟨z1, z2⟩, z3⟩
                omega
              have hr := ih (d 1 - (n + 1)) (by omega) (n + 1) M2 rfl (by omega) fx2
              rw [e] at hr
              exact Ru_weak hr rfl
            · refine Ru_iload (pc := 102) dX12_walkDay_102 rfl ?_
              refine Ru_istore (pc := 104) dX12_walkDay_104 rfl (by decide) ?_
              refine Ru_iincN (pc := 106) 1 dX12_walkDay_106 rfl rfl rfl (by decide) ?_
              refine Ru_goto (pc := 109) 44 dX12_walkDay_109 (by decide) ?_
              have e : dFs d V t s due (n + 1) = n + 1 := by
                rw [dFs, if_neg (by omega), if_pos ⟨⟨by assumption, by omega⟩, by omega⟩]
              have hr := ih (d 1 - (n + 1)) (by omega) (n + 1) M2 rfl (by omega) fx2
              rw [e] at hr
              exact Ru_weak hr rfl

theorem l_X12_walkDay2 {Q : Rq} {M0 : Mem} {d : Td} {m t s from0 time0 : Nat} (hc0 : ∀ k, k < 521 → M0.1 5 k = nI (d k)) (wf : Wf d) (hm : m < d 1) (hte : t + d (41 + m) ≤ 24) (hs : s < 2 ^ d 0) (k : ∀ M, r_fx [(0, 45), (0, 46), (0, 47)] [] M0 M → Ru 4 mt_X12_walkDay r_z 217 [(4, some (.int (nI (wR d (r_dif s (d (65 + m)), 0, 0) (t + 1) (d (41 + m) - 1)).1))), (1, some (.int (nI from0))), (2, some (.int (nI time0))), (3, some (.int (nI t))), (6, some (.int (nI m))), (7, some (.int (nI (t + d (41 + m))))), (0, some (.ref 0))] [] GY M Q) : ∀ (zw : Nat) (n : Nat) (M : Mem), d (41 + m) - 1 - n = zw → (n ≤ d (41 + m) - 1) → (r_fx [(0, 45), (0, 46), (0, 47)] [] M0 M) → Ru 4 mt_X12_walkDay r_z 190 [(4, some (.int (nI (wR d (r_dif s (d (65 + m)), 0, 0) (t + 1) n).1))), (8, some (.int (nI (t + 1 + n)))), (1, some (.int (nI from0))), (2, some (.int (nI time0))), (3, some (.int (nI t))), (6, some (.int (nI m))), (7, some (.int (nI (t + d (41 + m))))), (0, some (.ref 0))] [] GY M Q := by
  intro zw
  induction zw using Nat.strongRecOn with
  | ind zw ih =>
    intro n M hw hn fx
    subst hw
    have hb := wf.1
    have hp := pw_le hb.1
    have hm5 := wf.2.2.2.2.1 m hm
    have hc : ∀ k, k < 521 → M.1 5 k = nI (d k) := fun k hk => (fx 5 k rfl).1.trans (hc0 k hk)
    have hl1 : (wR d (r_dif s (d (65 + m)), 0, 0) (t + 1) n).1 ≤ r_dif s (d (65 + m)) := wR_le d (r_dif s (d (65 + m)), 0, 0) (t + 1) n
    have hl2 := r_dif_le s (d (65 + m))
    refine Ru_iload (pc := 190) dX12_walkDay_190 rfl ?_
    refine Ru_iload (pc := 192) dX12_walkDay_192 rfl ?_
    refine Ru_icmp_geN (pc := 194) 217 dX12_walkDay_194 (by decide) (by omega) (fun h1 => ?_) (fun h1 => ?_)
    · have en : n = d (41 + m) - 1 := by omega
      subst en
      exact Ru_weak (k _ fx) rfl
    · refine Ru_aload_n (pc := 197) dX12_walkDay_197 rfl rfl ?_
      refine Ru_iload (pc := 198) dX12_walkDay_198 rfl ?_
      refine Ru_iload (pc := 200) dX12_walkDay_200 rfl ?_
      refine Ru_cv2 (pc := 202) dX12_walkDay_202 mv_X12_436 rfl (by decide) (Nat.le_of_ble_eq_true rfl) (c_X12_take hc wf (by omega) (by omega) (fun M2 gx2 g45 g46 g47 => ?_)) 
      have fx2 := fx.tr gx2
      refine Ru_aload_n (pc := 205) dX12_walkDay_205 rfl rfl ?_
      refine Ru_getI (pc := 206) dX12_walkDay_206 fl_X12_430 rfl rfl ?_
      refine Ru_top g46 ?_
      refine Ru_istore (pc := 209) dX12_walkDay_209 rfl (by decide) ?_
      refine Ru_iincN (pc := 211) 1 dX12_walkDay_211 rfl rfl rfl (by decide) ?_
      refine Ru_goto (pc := 214) 190 dX12_walkDay_214 (by decide) ?_
      have e : (wR d (r_dif s (d (65 + m)), 0, 0) (t + 1) (n + 1)).1 = (wT d (t + 1 + n) (wR d (r_dif s (d (65 + m)), 0, 0) (t + 1) n).1).1 := congrArg (fun p => p.1) (wAll1_p d (t + 1 + n) (wR d (r_dif s (d (65 + m)), 0, 0) (t + 1) n))
      have hr := ih (d (41 + m) - 1 - (n + 1)) (by omega) (n + 1) M2 rfl (by omega) fx2
      rw [e] at hr
      exact Ru_weak hr rfl

theorem l_X12_walkDay3 {Q : Rq} {M0 : Mem} {d : Td} {V : Vt} {p0 : Nat × Nat} (hc0 : ∀ k, k < 521 → M0.1 5 k = nI (d k)) (wf : Wf d) (hp0 : p0.1 ≤ 24) (hp1 : p0.2 < 2 ^ d 0) (hV0 : ∀ t s, t ≤ 24 → s < 2 ^ d 0 → M0.1 8 (256 * t + s) = nI (V t s)) (hVb : ∀ t' s', V t' s' ≤ 100000000) (k : ∀ M', r_fx [(0, 37), (0, 45), (0, 46), (0, 47)] [11, 12] M0 M' → Y_sp (kSp d V p0) M' → Q (some (.int (nI (kEnd d V p0)))) GY M') : ∀ (zw : Nat) (i : Nat) (p : Nat × Nat) (M : Mem), 24 - (kTr d V p0 i).1 = zw → (p = kTr d V p0 i) → (∀ j, j < i → (kTr d V p0 j).1 < 24) → (∀ j, j < i → M.1 11 j = nM (kBst d V (kTr d V p0 j)) ∧ M.1 12 j = nI (kTr d V p0 j).1) → (M.1 0 37 = nI i) → (r_fx [(0, 37), (0, 45), (0, 46), (0, 47)] [11, 12] M0 M) → Ru 4 mt_X12_walkDay r_z 10 [(3, some (.int (nI p.1))), (4, some (.int (nI p.2))), (1, some (.int (nI p0.2))), (2, some (.int (nI p0.1))), (0, some (.ref 0))] [] GY M Q := by
  intro zw
  induction zw using Nat.strongRecOn with
  | ind zw ih =>
    intro i p M hw hpi hlt hst h37 fx
    subst hw
    have hb := wf.1
    have hp := pw_le hb.1
    have hc : ∀ k, k < 521 → M.1 5 k = nI (d k) := fun k hk => (fx 5 k rfl).1.trans (hc0 k hk)
    have hpt : i ≤ p.1 ∧ p.1 ≤ 24 := hpi ▸ kTr_i wf hlt hp0
    have hps : p.2 < 2 ^ d 0 := hpi ▸ kTr_s wf hp1 i
    refine Ru_iload_n (pc := 10) dX12_walkDay_10 rfl rfl ?_
    refine Ru_bipush (pc := 11) (nI 24) dX12_walkDay_11 rfl ?_
    refine Ru_icmp_geN (pc := 13) 240 dX12_walkDay_13 (by decide) (by omega) (fun h1 => ?_) (fun h1 => ?_)
    · refine Ru_aload_n (pc := 240) dX12_walkDay_240 rfl rfl ?_
      refine Ru_bipush (pc := 241) (nI 24) dX12_walkDay_241 rfl ?_
      refine Ru_iload (pc := 243) dX12_walkDay_243 rfl ?_
      refine Ru_cv2 (pc := 245) dX12_walkDay_245 mv_X12_436 rfl (by decide) (Nat.le_of_ble_eq_true rfl) (c_X12_take (t := 24) (s := p.2) hc wf (by omega) (by omega) (fun M2 gx2 g45 g46 g47 => ?_)) 
      have fx2 := fx.tr (gx2.mono (F' := [(0, 37), (0, 45), (0, 46), (0, 47)]) (A' := [11, 12]) rfl)
      have hc2 : ∀ k, k < 521 → M2.1 5 k = nI (d k) := fun k hk => (fx2 5 k rfl).1.trans (hc0 k hk)
      have hle := wT_le d 24 p.2
      refine Ru_aload_n (pc := 248) dX12_walkDay_248 rfl rfl ?_
      refine Ru_getI (pc := 249) dX12_walkDay_249 fl_X12_430 rfl rfl ?_
      refine Ru_top g46 ?_
      refine Ru_iret (pc := 252) dX12_walkDay_252 rfl ⟨Nat.le_refl _, Nat.le_refl _⟩ ?_
      have ni : ¬ (kTr d V p0 i).1 < 24 := by rw [← hpi]; omega
      have eN := kN_of hlt ni (by omega)
      have e9 : kEnd d V p0 = (wT d 24 p.2).1 := by
        unfold kEnd
        rw [eN, ← hpi]
      rw [e9] at k
      refine k _ fx2 ⟨?_, ?_, fun j hj => ?_⟩
      · show _ = nI (kN d V p0)
        rw [eN, (gx2 0 37 rfl).1]
        exact h37
      · show kN d V p0 ≤ 24
        omega
      · have hj2 : j < i := by
          have : j < kN d V p0 := hj
          omega
        rw [(gx2 11 j rfl).1, (gx2 12 j rfl).1]
        exact hst j hj2
    · refine Ru_aload_n (pc := 16) dX12_walkDay_16 rfl rfl ?_
      refine Ru_iload_n (pc := 17) dX12_walkDay_17 rfl rfl ?_
      refine Ru_iload (pc := 18) dX12_walkDay_18 rfl ?_
      refine Ru_cv2 (pc := 20) dX12_walkDay_20 mv_X12_436 rfl (by decide) (Nat.le_of_ble_eq_true rfl) (c_X12_take (t := p.1) (s := p.2) hc wf (by omega) (by omega) (fun M2 gx2 g45 g46 g47 => ?_)) 
      have fx2 := fx.tr (gx2.mono (F' := [(0, 37), (0, 45), (0, 46), (0, 47)]) (A' := [11, 12]) rfl)
      have hc2 : ∀ k, k < 521 → M2.1 5 k = nI (d k) := fun k hk => (fx2 5 k rfl).1.trans (hc0 k hk)
      have hle := wT_le d p.1 p.2
      refine Ru_aload_n (pc := 23) dX12_walkDay_23 rfl rfl ?_
      refine Ru_getI (pc := 24) dX12_walkDay_24 fl_X12_430 rfl rfl ?_
      refine Ru_top g46 ?_
      refine Ru_istore (pc := 27) dX12_walkDay_27 rfl (by decide) ?_
      refine Ru_aload_n (pc := 29) dX12_walkDay_29 rfl rfl ?_
      refine Ru_iload_n (pc := 30) dX12_walkDay_30 rfl rfl ?_
      refine Ru_iload (pc := 31) dX12_walkDay_31 rfl ?_
      refine Ru_cv2 (pc := 33) dX12_walkDay_33 mv_X12_442 rfl (by decide) (Nat.le_of_ble_eq_true rfl) (c_X12_mostFrom (V := V) (t := p.1) (s := (wT d p.1 p.2).1) hc2 wf (by omega) (by omega) (fun t' s' _ h2 h3 => (fx2 8 _ rfl).1.trans (hV0 t' s' h2 h3)) hVb (fun M3 gx3 => ?_)) 
      have fx3 := fx2.tr (gx3.mono (F' := [(0, 37), (0, 45), (0, 46), (0, 47)]) (A' := [11, 12]) rfl)
      have hc3 : ∀ k, k < 521 → M3.1 5 k = nI (d k) := fun k hk => (fx3 5 k rfl).1.trans (hc0 k hk)
      have hdb := dMf_b2 wf (t := p.1) (s := (wT d p.1 p.2).1) hVb (d 1) (Nat.le_refl _)
      refine Ru_istore (pc := 36) dX12_walkDay_36 rfl (by decide) ?_
      refine Ru_iconst (pc := 38) (-1) dX12_walkDay_38 rfl ?_
      refine Ru_istore (pc := 39) dX12_walkDay_39 rfl (by decide) ?_
      refine Ru_iconst (pc := 41) (nI 0) dX12_walkDay_41 rfl ?_
      refine Ru_istore (pc := 42) dX12_walkDay_42 rfl (by decide) ?_
      refine Ru_weak (l_X12_walkDay1 (M0 := M3) (V := V) (t := p.1) (s := (wT d p.1 p.2).1) (due := dMf d V p.1 (wT d p.1 p.2).1 (d 1)) (from0 := p0.2) (time0 := p0.1) hc3 wf (by omega) (by omega) (by omega) (fun t' s' _ h2 h3 => (fx3 8 _ rfl).1.trans (hV0 t' s' h2 h3)) hVb (fun M4 gx4 => ?_) (d 1) 0 M3 rfl (Nat.zero_le _) r_fx.rf) rfl
      have fx4 := fx3.tr (gx4.mono (F' := [(0, 37), (0, 45), (0, 46), (0, 47)]) (A' := [11, 12]) rfl)
      have hc4 : ∀ k, k < 521 → M4.1 5 k = nI (d k) := fun k hk => (fx4 5 k rfl).1.trans (hc0 k hk)
      have h374 : M4.1 0 37 = nI i := (gx4 0 37 rfl).1.trans ((gx3 0 37 rfl).1.trans ((gx2 0 37 rfl).1.trans h37))
      have hst4 : ∀ j, j < i → M4.1 11 j = nM (kBst d V (kTr d V p0 j)) ∧ M4.1 12 j = nI (kTr d V p0 j).1 := fun j hj => by
        rw [(gx4 11 j rfl).1, (gx3 11 j rfl).1, (gx2 11 j rfl).1, (gx4 12 j rfl).1, (gx3 12 j rfl).1, (gx2 12 j rfl).1]
        exact hst j hj
      have hkb : dFs d V p.1 (wT d p.1 p.2).1 (dMf d V p.1 (wT d p.1 p.2).1 (d 1)) (d 1) = kBst d V p := rfl
      rw [hkb]
      have hkl : kBst d V p ≤ d 1 := dFs_le (d 1)
      have hzk : (nM (kBst d V p)).toInt = (kBst d V p : Int) - 1 := nM_t (by omega)
      refine Ru_aload_n (pc := 112) dX12_walkDay_112 rfl rfl ?_
      refine Ru_getR (pc := 113) 11 dX12_walkDay_113 fl_X12_54 rfl rfl rfl ?_
      refine Ru_aload_n (pc := 116) dX12_walkDay_116 rfl rfl ?_
      refine Ru_getI (pc := 117) dX12_walkDay_117 fl_X12_445 rfl rfl ?_
      refine Ru_top h374 ?_
      refine Ru_iload (pc := 120) dX12_walkDay_120 rfl ?_
      refine Ru_iast (pc := 122) rfl dX12_walkDay_122 rfl (by omega) ?_
      refine Ru_aload_n (pc := 123) dX12_walkDay_123 rfl rfl ?_
      refine Ru_getR (pc := 124) 12 dX12_walkDay_124 fl_X12_57 rfl rfl rfl ?_
      refine Ru_aload_n (pc := 127) dX12_walkDay_127 rfl rfl ?_
      refine Ru_getI (pc := 128) dX12_walkDay_128 fl_X12_445 rfl rfl ?_
      refine Ru_top ((r_sI_n (by omega)).trans h374) ?_
      refine Ru_iload_n (pc := 131) dX12_walkDay_131 rfl rfl ?_
      refine Ru_iast (pc := 132) rfl dX12_walkDay_132 rfl (by omega) ?_
      refine Ru_aload_n (pc := 133) dX12_walkDay_133 rfl rfl ?_
      refine Ru_dup (pc := 134) dX12_walkDay_134 rfl ?_
      refine Ru_getI (pc := 135) dX12_walkDay_135 fl_X12_445 rfl rfl ?_
      refine Ru_top ((r_sI_n (by omega)).trans ((r_sI_n (by omega)).trans h374)) ?_
      refine Ru_iconst (pc := 138) (nI 1) dX12_walkDay_138 rfl ?_
      refine Ru_iaddN (pc := 139) dX12_walkDay_139 ?_
      refine Ru_putI (pc := 140) rfl dX12_walkDay_140 fl_X12_445 rfl ?_
      refine Ru_iload (pc := 143) dX12_walkDay_143 rfl ?_
      refine Ru_if_geT (pc := 145) 154 dX12_walkDay_145 (by decide) (fun h1 => ?_) (fun h1 => ?_)
      · obtain ⟨m, qz_eb⟩ : ∃ m, kBst d V p = m + 1 := ⟨kBst d V p - 1, by omega⟩
        rw [qz_eb]
        refine Ru_weak (L' := [(6, some (.int (nI m))), (3, some (.int (nI p.1))), (4, some (.int (nI (wT d p.1 p.2).1))), (1, some (.int (nI p0.2))), (2, some (.int (nI p0.1))), (0, some (.ref 0))]) ?_ rfl
        have hin := dFs_in (d 1) (show dFs d V p.1 (wT d p.1 p.2).1 (dMf d V p.1 (wT d p.1 p.2).1 (d 1)) (d 1) = m + 1 from qz_eb)
        have hm5 := wf.2.2.2.2.1 m hin.1
        refine Ru_iload_n (pc := 154) dX12_walkDay_154 rfl rfl ?_
        refine Ru_aload_n (pc := 155) dX12_walkDay_155 rfl rfl ?_
        refine Ru_getR (pc := 156) 5 dX12_walkDay_156 fl_X12_35 rfl rfl rfl ?_
        refine Ru_bipush (pc := 159) (nI 41) dX12_walkDay_159 rfl ?_
        refine Ru_iload (pc := 161) dX12_walkDay_161 rfl ?_
        refine Ru_iaddN (pc := 163) dX12_walkDay_163 ?_
        refine Ru_iald (pc := 164) dX12_walkDay_164 rfl (by omega) ?_
        refine Ru_top ((r_sI_n (by omega)).trans ((r_sI_n (by omega)).trans ((r_sI_n (by omega)).trans (hc4 (41 + m) (by omega))))) ?_
        refine Ru_iaddN (pc := 165) dX12_walkDay_165 ?_
        refine Ru_istore (pc := 166) dX12_walkDay_166 rfl (by decide) ?_
        refine Ru_iload (pc := 168) dX12_walkDay_168 rfl ?_
        refine Ru_aload_n (pc := 170) dX12_walkDay_170 rfl rfl ?_
        refine Ru_getR (pc := 171) 5 dX12_walkDay_171 fl_X12_35 rfl rfl rfl ?_
        refine Ru_bipush (pc := 174) (nI 65) dX12_walkDay_174 rfl ?_
        refine Ru_iload (pc := 176) dX12_walkDay_176 rfl ?_
        refine Ru_iaddN (pc := 178) dX12_walkDay_178 ?_
        refine Ru_iald (pc := 179) dX12_walkDay_179 rfl (by omega) ?_
        refine Ru_top ((r_sI_n (by omega)).trans ((r_sI_n (by omega)).trans ((r_sI_n (by omega)).trans (hc4 (65 + m) (by omega))))) ?_
        refine Ru_iconst (pc := 180) (-1) dX12_walkDay_180 rfl ?_
        refine Ru_ixor (pc := 181) dX12_walkDay_181 ?_
        refine Ru_idifN (pc := 182) dX12_walkDay_182 ?_
        refine Ru_istore (pc := 183) dX12_walkDay_183 rfl (by decide) ?_
        refine Ru_iload_n (pc := 185) dX12_walkDay_185 rfl rfl ?_
        refine Ru_iconst (pc := 186) (nI 1) dX12_walkDay_186 rfl ?_
        refine Ru_iaddN (pc := 187) dX12_walkDay_187 ?_
        refine Ru_istore (pc := 188) dX12_walkDay_188 rfl (by decide) ?_
        refine Ru_weak (l_X12_walkDay2 (m := m) (t := p.1) (s := (wT d p.1 p.2).1) (from0 := p0.2) (time0 := p0.1) (fun k hk => ((r_sI_n (by omega)).trans ((r_sI_n (by omega)).trans ((r_sI_n (by omega)).trans (hc4 k hk))))) wf hin.1 hin.2.2 (by omega) (fun M5 gx5 => ?_) (d (41 + m) - 1) 0 _ rfl (Nat.zero_le _) r_fx.rf) rfl
        have hc5 : ∀ k, k < 521 → M5.1 5 k = nI (d k) := fun k hk => (gx5 5 k rfl).1.trans ((fun k hk => ((r_sI_n (by omega)).trans ((r_sI_n (by omega)).trans ((r_sI_n (by omega)).trans (hc4 k hk))))) k hk)
        refine Ru_iload (pc := 217) dX12_walkDay_217 rfl ?_
        refine Ru_iconst (pc := 219) (nI 1) dX12_walkDay_219 rfl ?_
        refine Ru_aload_n (pc := 220) dX12_walkDay_220 rfl rfl ?_
        refine Ru_getR (pc := 221) 5 dX12_walkDay_221 fl_X12_35 rfl rfl rfl ?_
        refine Ru_bipush (pc := 224) (nI 29) dX12_walkDay_224 rfl ?_
        refine Ru_iload (pc := 226) dX12_walkDay_226 rfl ?_
        refine Ru_iaddN (pc := 228) dX12_walkDay_228 ?_
        refine Ru_iald (pc := 229) dX12_walkDay_229 rfl (by omega) ?_
        refine Ru_top (hc5 (29 + m) (by omega)) ?_
        refine Ru_ishl1N (pc := 230) dX12_walkDay_230 (by omega) ?_
        refine Ru_iorN (pc := 231) dX12_walkDay_231 ?_
        refine Ru_istore (pc := 232) dX12_walkDay_232 rfl (by decide) ?_
        refine Ru_iload (pc := 234) dX12_walkDay_234 rfl ?_
        refine Ru_istore_n (pc := 236) dX12_walkDay_236 rfl rfl (by decide) ?_
        refine Ru_goto (pc := 237) 10 dX12_walkDay_237 (by decide) ?_
        have hnx : kTr d V p0 (i + 1) = ((p.1 + d (41 + m)), ((wR d (r_dif (wT d p.1 p.2).1 (d (65 + m)), 0, 0) (p.1 + 1) (d (41 + m) - 1)).1 ||| (2 ^ (d (29 + m))))) := (by show kNx d V (kTr d V p0 i) = _; rw [← hpi]; unfold kNx; rw [if_neg (by omega), qz_eb, Nat.add_sub_cancel])
        have hlt2 : ∀ j, j < i + 1 → (kTr d V p0 j).1 < 24 := fun j hj => by
          by_cases e : j = i
          · subst e
            rw [← hpi]
            omega
          · exact hlt j (by omega)
        refine Ru_weak (ih (24 - (kTr d V p0 (i + 1)).1) ?_ (i + 1) ((p.1 + d (41 + m)), ((wR d (r_dif (wT d p.1 p.2).1 (d (65 + m)), 0, 0) (p.1 + 1) (d (41 + m) - 1)).1 ||| (2 ^ (d (29 + m))))) _ (by rw [hnx]) (by rw [hnx]) hlt2 (fun j hj => ?_) ?_ ((r_fx.sI rfl (r_fx.sI rfl (r_fx.sI rfl fx4))).tr (gx5.mono (F' := [(0, 37), (0, 45), (0, 46), (0, 47)]) (A' := [11, 12]) rfl))) rfl
        · rw [hnx]
          have := kNx_t wf (V := V) (p := p) (by omega)
          have e9 : kNx d V p = ((p.1 + d (41 + m)), ((wR d (r_dif (wT d p.1 p.2).1 (d (65 + m)), 0, 0) (p.1 + 1) (d (41 + m) - 1)).1 ||| (2 ^ (d (29 + m))))) := by rw [← hnx, hpi]; rfl
          rw [e9] at this
          simp only [] at this ⊢
          rw [← hpi]
          omega
        · rw [(gx5 11 j rfl).1, (gx5 12 j rfl).1]; simp only [r_sI_g]
          by_cases e : j = i
          · subst e
            rw [← hpi]
            simp
            rw [qz_eb]
          · have := hst4 j (by omega)
            simp [e]
            exact this
        · rw [(gx5 0 37 rfl).1]; simp [r_sI_g]
      · refine Ru_iincN (pc := 148) 1 dX12_walkDay_148 rfl rfl rfl (by decide) ?_
        refine Ru_goto (pc := 151) 10 dX12_walkDay_151 (by decide) ?_
        have hnx : kTr d V p0 (i + 1) = ((p.1 + 1), (wT d p.1 p.2).1) := (by show kNx d V (kTr d V p0 i) = _; rw [← hpi]; unfold kNx; rw [if_pos (by omega)])
        have hlt2 : ∀ j, j < i + 1 → (kTr d V p0 j).1 < 24 := fun j hj => by
          by_cases e : j = i
          · subst e
            rw [← hpi]
            omega
          · exact hlt j (by omega)
        refine Ru_weak (ih (24 - (kTr d V p0 (i + 1)).1) ?_ (i + 1) ((p.1 + 1), (wT d p.1 p.2).1) _ (by rw [hnx]) (by rw [hnx]) hlt2 (fun j hj => ?_) ?_ (r_fx.sI rfl (r_fx.sI rfl (r_fx.sI rfl fx4)))) rfl
        · rw [hnx]
          have := kNx_t wf (V := V) (p := p) (by omega)
          have e9 : kNx d V p = ((p.1 + 1), (wT d p.1 p.2).1) := by rw [← hnx, hpi]; rfl
          rw [e9] at this
          simp only [] at this ⊢
          rw [← hpi]
          omega
        · simp only [r_sI_g]
          by_cases e : j = i
          · subst e
            rw [← hpi]
            simp
          · have := hst4 j (by omega)
            simp [e]
            exact this
        · simp [r_sI_g]

theorem c_X12_walkDay {Q : Rq} {M : Mem} {d : Td} {V : Vt} {p0 : Nat × Nat} (hc0 : ∀ k, k < 521 → M.1 5 k = nI (d k)) (wf : Wf d) (hp0 : p0.1 ≤ 24) (hp1 : p0.2 < 2 ^ d 0) (hV0 : ∀ t s, t ≤ 24 → s < 2 ^ d 0 → M.1 8 (256 * t + s) = nI (V t s)) (hVb : ∀ t' s', V t' s' ≤ 100000000) (k : ∀ M', r_fx [(0, 37), (0, 45), (0, 46), (0, 47)] [11, 12] M M' → Y_sp (kSp d V p0) M' → Q (some (.int (nI (kEnd d V p0)))) GY M') : Ca 4 mt_X12_walkDay 0 0 [.ref 0, .int (nI p0.2), .int (nI p0.1)] GY M Q := by
  refine Ca_of rfl (Nat.le_of_ble_eq_true rfl) ?_
  refine Ru_aload_n (pc := 0) dX12_walkDay_0 rfl rfl ?_
  refine Ru_iconst (pc := 1) (nI 0) dX12_walkDay_1 rfl ?_
  refine Ru_putI (pc := 2) rfl dX12_walkDay_2 fl_X12_445 rfl ?_
  refine Ru_iload_n (pc := 5) dX12_walkDay_5 rfl rfl ?_
  refine Ru_istore_n (pc := 6) dX12_walkDay_6 rfl rfl (by decide) ?_
  refine Ru_iload_n (pc := 7) dX12_walkDay_7 rfl rfl ?_
  refine Ru_istore (pc := 8) dX12_walkDay_8 rfl (by decide) ?_
  exact Ru_weak (l_X12_walkDay3 (M0 := M) hc0 wf hp0 hp1 hV0 hVb k _ 0 p0 _ rfl rfl (fun j hj => by omega) (fun j hj => by omega) r_sI_s (r_fx.sI rfl r_fx.rf)) rfl
