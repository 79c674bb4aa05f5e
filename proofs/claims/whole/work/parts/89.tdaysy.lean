-- DAYS ALONE: the reference

theorem l_X12_tellDays1 {Q : Rq} {M0 : Mem} {kk nn y : Nat} (k : ∀ M, (∀ k, k < 256 → M.1 9 k = M0.1 8 k) → r_fx [] [9] M0 M → Ru 5 mt_X12_tellDays r_z 47 [(3, some (.int (nI kk))), (1, some (.int (nI nn))), (2, some (.int (nI y))), (0, some (.ref 0))] [] GY M Q) : ∀ (zw : Nat) (n : Nat) (M : Mem), 256 - n = zw → (n ≤ 256) → (∀ k, k < n → M.1 9 k = M0.1 8 k) → (r_fx [] [9] M0 M) → Ru 5 mt_X12_tellDays r_z 19 [(4, some (.int (nI n))), (3, some (.int (nI kk))), (1, some (.int (nI nn))), (2, some (.int (nI y))), (0, some (.ref 0))] [] GY M Q := by
  intro zw
  induction zw using Nat.strongRecOn with
  | ind zw ih =>
    intro n M hw hn h9 fx
    subst hw
    refine Ru_iload (pc := 19) dX12_tellDays_19 rfl ?_
    refine Ru_sipush (pc := 21) (nI 256) dX12_tellDays_21 rfl ?_
    refine Ru_icmp_geN (pc := 24) 47 dX12_tellDays_24 (by decide) (by omega) (fun h1 => ?_) (fun h1 => ?_)
    · have e8 : n = 256 := by omega
      subst e8
      exact Ru_weak (k _ h9 fx) rfl
    · refine Ru_aload_n (pc := 27) dX12_tellDays_27 rfl rfl ?_
      refine Ru_getR (pc := 28) 9 dX12_tellDays_28 fl_X12_48 rfl rfl rfl ?_
      refine Ru_iload (pc := 31) dX12_tellDays_31 rfl ?_
      refine Ru_aload_n (pc := 33) dX12_tellDays_33 rfl rfl ?_
      refine Ru_getR (pc := 34) 8 dX12_tellDays_34 fl_X12_45 rfl rfl rfl ?_
      refine Ru_iload (pc := 37) dX12_tellDays_37 rfl ?_
      refine Ru_iald (pc := 39) dX12_tellDays_39 rfl (by omega) ?_
      refine Ru_top ((fx 8 n rfl).1) ?_
      refine Ru_iast (pc := 40) rfl dX12_tellDays_40 rfl (by omega) ?_
      refine Ru_iincN (pc := 41) 1 dX12_tellDays_41 rfl rfl rfl (by decide) ?_
      refine Ru_goto (pc := 44) 19 dX12_tellDays_44 (by decide) ?_
      exact Ru_weak (ih (256 - (n + 1)) (by omega) (n + 1) _ rfl (by omega) (r_ext (f := fun k => M0.1 8 k) h9 rfl) (r_fx.sI rfl fx)) rfl

theorem l_X12_tellDays2 {Q : Rq} {M0 : Mem} {d : Td} {f : Nat → Nat} {kk nn y A C : Nat} (hc0 : ∀ k, k < 521 → M0.1 5 k = nI (d k)) (wf : Wf d) (hkk : 1 ≤ kk) (hy : y + kk < 2000) (hA : A < 256) (hwl : Wl d) (hal0 : M0.1 0 29 = nI A) (hf0 : ∀ x, x < 2 ^ d 0 → M0.1 9 x = nI (f x)) (hfC : ∀ x, f x ≤ C) (hC : C ≤ 100000000) (k : ∀ M, (∀ s, s < 2 ^ d 0 → M.1 10 s = nI (nBest d A f s ((y + kk - 1) % 7))) → r_fx [] [7, 10] M0 M → Ru 5 mt_X12_tellDays r_z 91 [(3, some (.int (nI kk))), (1, some (.int (nI nn))), (2, some (.int (nI y))), (0, some (.ref 0))] [] GY M Q) : ∀ (zw : Nat) (n : Nat) (M : Mem), 2 ^ d 0 - n = zw → (n ≤ 2 ^ d 0) → (∀ s, s < n → M.1 10 s = nI (nBest d A f s ((y + kk - 1) % 7))) → (r_fx [] [7, 10] M0 M) → Ru 5 mt_X12_tellDays r_z 54 [(4, some (.int (nI n))), (3, some (.int (nI kk))), (1, some (.int (nI nn))), (2, some (.int (nI y))), (0, some (.ref 0))] [] GY M Q := by
  intro zw
  induction zw using Nat.strongRecOn with
  | ind zw ih =>
    intro n M hw hn h10 fx
    subst hw
    have hb := wf.1
    have hp := pw_le hb.1
    have hc : ∀ k, k < 521 → M.1 5 k = nI (d k) := fun k hk => (fx 5 k rfl).1.trans (hc0 k hk)
    refine Ru_iload (pc := 54) dX12_tellDays_54 rfl ?_
    refine Ru_iconst (pc := 56) (nI 1) dX12_tellDays_56 rfl ?_
    refine Ru_aload_n (pc := 57) dX12_tellDays_57 rfl rfl ?_
    refine Ru_getR (pc := 58) 5 dX12_tellDays_58 fl_X12_35 rfl rfl rfl ?_
    refine Ru_iconst (pc := 61) (nI 0) dX12_tellDays_61 rfl ?_
    refine Ru_iald (pc := 62) dX12_tellDays_62 rfl (by omega) ?_
    refine Ru_top (hc 0 (by omega)) ?_
    refine Ru_ishl1N (pc := 63) dX12_tellDays_63 (by omega) ?_
    refine Ru_icmp_geN (pc := 64) 91 dX12_tellDays_64 (by decide) (by omega) (fun h1 => ?_) (fun h1 => ?_)
    · have en : n = 2 ^ d 0 := by omega
      subst en
      exact Ru_weak (k _ h10 fx) rfl
    · refine Ru_aload_n (pc := 67) dX12_tellDays_67 rfl rfl ?_
      refine Ru_getR (pc := 68) 10 dX12_tellDays_68 fl_X12_51 rfl rfl rfl ?_
      refine Ru_iload (pc := 71) dX12_tellDays_71 rfl ?_
      refine Ru_aload_n (pc := 73) dX12_tellDays_73 rfl rfl ?_
      refine Ru_iload (pc := 74) dX12_tellDays_74 rfl ?_
      refine Ru_iload_n (pc := 76) dX12_tellDays_76 rfl rfl ?_
      refine Ru_iload_n (pc := 77) dX12_tellDays_77 rfl rfl ?_
      refine Ru_iaddN (pc := 78) dX12_tellDays_78 ?_
      refine Ru_iconst (pc := 79) (nI 1) dX12_tellDays_79 rfl ?_
      refine Ru_isubN (pc := 80) dX12_tellDays_80 (by omega) ?_
      refine Ru_cv2 (pc := 81) dX12_tellDays_81 mv_X12_457 rfl (by decide) (Nat.le_of_ble_eq_true rfl) (c_X12_bestNight (A := A) (f := f) (s := n) hc wf (by omega) (by omega) hA hwl ((fx 0 29 rfl).1.trans hal0) (fun x hx => (fx 9 x rfl).1.trans (hf0 x hx)) hfC hC (fun M2 gx2 => ?_)) 
      have fx2 : r_fx [] [7, 10] M0 M2 := fx.tr (gx2.mono rfl)
      refine Ru_iast (pc := 84) rfl dX12_tellDays_84 rfl (by omega) ?_
      refine Ru_iincN (pc := 85) 1 dX12_tellDays_85 rfl rfl rfl (by decide) ?_
      refine Ru_goto (pc := 88) 54 dX12_tellDays_88 (by decide) ?_
      exact Ru_weak (ih (2 ^ d 0 - (n + 1)) (by omega) (n + 1) _ rfl (by omega) (r_ext (f := fun s => nI (nBest d A f s ((y + kk - 1) % 7))) (fun s hs => (gx2 10 s rfl).1.trans (h10 s hs)) rfl) (r_fx.sI rfl fx2)) rfl

theorem l_X12_tellDays3 {Q : Rq} {M0 : Mem} {d : Td} {n y A : Nat} (hc0 : ∀ k, k < 521 → M0.1 5 k = nI (d k)) (wf : Wf d) (hn1 : 1 ≤ n ∧ n ≤ 9) (hy : y ≤ 1000) (hA : A < 256) (hwl : Wl d) (hal0 : M0.1 0 29 = nI A) (k : ∀ M', (∀ t s, t ≤ 24 → s < 2 ^ d 0 → M'.1 8 (256 * t + s) = nI (dA d (BD d A (y + n - 2) (n - 1)) t s)) → (∀ s, s < 2 ^ d 0 → M'.1 9 s = nI (bV d A n (y + n - 2) s)) → (∀ s, s < 2 ^ d 0 → M'.1 10 s = nI (BD d A (y + n - 2) (n - 1) s)) → r_fx [(0, 45), (0, 46), (0, 47)] [7, 8, 9, 10] M0 M' → Q none GY M') : ∀ (zw : Nat) (j : Nat) (M : Mem), j = zw → (j ≤ n) → (0 < j → ∀ s, s < 2 ^ d 0 → M.1 10 s = nI (BD d A (y + n - 2) (n - j) s)) → (j = 0 → (∀ t s, t ≤ 24 → s < 2 ^ d 0 → M.1 8 (256 * t + s) = nI (dA d (BD d A (y + n - 2) (n - 1)) t s)) ∧ (∀ s, s < 2 ^ d 0 → M.1 9 s = nI (bV d A n (y + n - 2) s)) ∧ ∀ s, s < 2 ^ d 0 → M.1 10 s = nI (BD d A (y + n - 2) (n - 1) s)) → (r_fx [(0, 45), (0, 46), (0, 47)] [7, 8, 9, 10] M0 M) → Ru 5 mt_X12_tellDays r_z 8 [(3, some (.int (nM j))), (1, some (.int (nI n))), (2, some (.int (nI y))), (0, some (.ref 0))] [] GY M Q := by
  intro zw
  induction zw using Nat.strongRecOn with
  | ind zw ih =>
    intro j M hw hj hB hF fx
    subst hw
    have hb := wf.1
    have hp := pw_le hb.1
    have hc : ∀ k, k < 521 → M.1 5 k = nI (d k) := fun k hk => (fx 5 k rfl).1.trans (hc0 k hk)
    have hz : (nM j).toInt = (j : Int) - 1 := nM_t (by omega)
    refine Ru_iload_n (pc := 8) dX12_tellDays_8 rfl rfl ?_
    refine Ru_if_ltT (pc := 9) 97 dX12_tellDays_9 (by decide) (fun h1 => ?_) (fun h1 => ?_)
    · refine Ru_vret (pc := 97) dX12_tellDays_97 rfl ⟨Nat.le_refl _, Nat.le_refl _⟩ ?_
      have e0 : j = 0 := by omega
      obtain ⟨f1, f2, f3⟩ := hF e0
      exact k _ f1 f2 f3 fx
    · obtain ⟨q, eq⟩ : ∃ q, j = q + 1 := ⟨j - 1, by omega⟩
      subst eq
      refine Ru_weak (L' := [(3, some (.int (nI q))), (1, some (.int (nI n))), (2, some (.int (nI y))), (0, some (.ref 0))]) ?_ rfl
      have hbd := BD_b wf A (y + n - 2) (n - (q + 1))
      have hBq : ∀ s, BD d A (y + n - 2) (n - (q + 1)) s ≤ 199800 * 9 := fun s => by
        have := hbd s
        omega
      refine Ru_aload_n (pc := 12) dX12_tellDays_12 rfl rfl ?_
      refine Ru_cv0 (pc := 13) dX12_tellDays_13 mv_X12_451 rfl (by decide) (Nat.le_of_ble_eq_true rfl) (c_X12_tellDay (B := BD d A (y + n - 2) (n - (q + 1))) (C := 199800 * 9) hc wf (hB (by omega)) hBq (by omega) (fun M2 hv2 gx2 => ?_)) 
      have fx2 : r_fx [(0, 45), (0, 46), (0, 47)] [7, 8, 9, 10] M0 M2 := fx.tr (gx2.mono rfl)
      have hc2 : ∀ k, k < 521 → M2.1 5 k = nI (d k) := fun k hk => (fx2 5 k rfl).1.trans (hc0 k hk)
      refine Ru_iconst (pc := 16) (nI 0) dX12_tellDays_16 rfl ?_
      refine Ru_istore (pc := 17) dX12_tellDays_17 rfl (by decide) ?_
      refine Ru_weak (l_X12_tellDays1 (M0 := M2) (fun M3 g9 gx3 => ?_) 256 0 M2 rfl (by omega) (fun k hk => by omega) r_fx.rf) rfl
      have fx3 : r_fx [(0, 45), (0, 46), (0, 47)] [7, 8, 9, 10] M0 M3 := fx2.tr (gx3.mono rfl)
      have hc3 : ∀ k, k < 521 → M3.1 5 k = nI (d k) := fun k hk => (fx3 5 k rfl).1.trans (hc0 k hk)
      have h9 : ∀ s, s < 2 ^ d 0 → M3.1 9 s = nI (dA d (BD d A (y + n - 2) (n - (q + 1))) 0 s) := fun s hs => by
        rw [g9 s (by omega)]
        have := hv2 0 s (by omega) hs
        rw [Nat.mul_zero, Nat.zero_add] at this
        exact this
      have h8 : ∀ t s, t ≤ 24 → s < 2 ^ d 0 → M3.1 8 (256 * t + s) = nI (dA d (BD d A (y + n - 2) (n - (q + 1))) t s) := fun t s h1 h2 => (gx3 8 _ rfl).1.trans (hv2 t s h1 h2)
      refine Ru_iload_n (pc := 47) dX12_tellDays_47 rfl rfl ?_
      refine Ru_if_leN (pc := 48) 91 dX12_tellDays_48 (by decide) (by omega) (fun h1 => ?_) (fun h1 => ?_)
      · refine Ru_iinc (pc := 91) _ dX12_tellDays_91 rfl rfl rfl (by decide) ?_
        refine Ru_goto (pc := 94) 8 dX12_tellDays_94 (by decide) ?_
        rw [nM_dec (by omega)]
        have eq0 : q = 0 := by omega
        subst eq0
        refine Ru_weak (ih 0 (by omega) 0 M3 rfl (by omega) (fun z => by omega) (fun _ => ⟨?_, ?_, ?_⟩) fx3) rfl
        · exact h8
        · exact h9
        · intro s hs
          exact (gx3 10 s rfl).1.trans ((gx2 10 s rfl).1.trans (hB (by omega) s hs))
      · refine Ru_iconst (pc := 51) (nI 0) dX12_tellDays_51 rfl ?_
        refine Ru_istore (pc := 52) dX12_tellDays_52 rfl (by decide) ?_
        refine Ru_weak (l_X12_tellDays2 (M0 := M3) (f := fun x => dA d (BD d A (y + n - 2) (n - (q + 1))) 0 x) (C := 199800 * 9 + 199800) hc3 wf (show 1 ≤ q by omega) (by omega) hA hwl ((fx3 0 29 rfl).1.trans hal0) h9 (fun x => dA_b wf hBq 0 x (by omega)) (by omega) (fun M4 g10 gx4 => ?_) (2 ^ d 0) 0 M3 rfl (Nat.zero_le _) (fun s hs => by omega) r_fx.rf) rfl
        have fx4 : r_fx [(0, 45), (0, 46), (0, 47)] [7, 8, 9, 10] M0 M4 := fx3.tr (gx4.mono rfl)
        refine Ru_iinc (pc := 91) _ dX12_tellDays_91 rfl rfl rfl (by decide) ?_
        refine Ru_goto (pc := 94) 8 dX12_tellDays_94 (by decide) ?_
        rw [nM_dec (by omega)]
        refine Ru_weak (ih q (by omega) q M4 rfl (by omega) (fun _ s hs => ?_) (fun z => by omega) fx4) rfl
        rw [g10 s hs, show n - q = (n - (q + 1)) + 1 by omega]
        show _ = nI (nBest d A _ s ((y + n - 2 - (n - (q + 1))) % 7))
        rw [show y + n - 2 - (n - (q + 1)) = y + q - 1 by omega]

theorem c_X12_tellDays {Q : Rq} {M : Mem} {d : Td} {n y A : Nat} (hc0 : ∀ k, k < 521 → M.1 5 k = nI (d k)) (wf : Wf d) (hn1 : 1 ≤ n ∧ n ≤ 9) (hy : y ≤ 1000) (hA : A < 256) (hwl : Wl d) (hal0 : M.1 0 29 = nI A) (k : ∀ M', (∀ t s, t ≤ 24 → s < 2 ^ d 0 → M'.1 8 (256 * t + s) = nI (dA d (BD d A (y + n - 2) (n - 1)) t s)) → (∀ s, s < 2 ^ d 0 → M'.1 9 s = nI (bV d A n (y + n - 2) s)) → (∀ s, s < 2 ^ d 0 → M'.1 10 s = nI (BD d A (y + n - 2) (n - 1) s)) → r_fx [(0, 45), (0, 46), (0, 47)] [7, 8, 9, 10] M M' → Q none GY M') : Ca 5 mt_X12_tellDays 0 0 [.ref 0, .int (nI n), .int (nI y)] GY M Q := by
  refine Ca_of rfl (Nat.le_of_ble_eq_true rfl) ?_
  refine Ru_aload_n (pc := 0) dX12_tellDays_0 rfl rfl ?_
  refine Ru_cv0 (pc := 1) dX12_tellDays_1 mv_X12_448 rfl (by decide) (Nat.le_of_ble_eq_true rfl) (c_X12_nothingBehind (fun M2 g10 gx2 => ?_)) 
  refine Ru_iload_n (pc := 4) dX12_tellDays_4 rfl rfl ?_
  refine Ru_iconst (pc := 5) (nI 1) dX12_tellDays_5 rfl ?_
  refine Ru_isub (pc := 6) dX12_tellDays_6 ?_
  rw [nM_sub (by omega)]
  refine Ru_istore_n (pc := 7) dX12_tellDays_7 rfl rfl (by decide) ?_
  have hp := pw_le wf.1.1
  exact Ru_weak (l_X12_tellDays3 (M0 := M) hc0 wf hn1 hy hA hwl hal0 k n n M2 rfl (Nat.le_refl _) (fun _ s hs => by rw [Nat.sub_self]; exact g10 s (by omega)) (fun z => by omega) (gx2.mono rfl)) rfl
