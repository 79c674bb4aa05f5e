def wAny (d : Td) (s h : Nat) : Nat → Bool
  | 0 => false
  | n + 1 => wAny d s h n || (s.testBit n && aw (d (89 + n)) (d (95 + n)) h)
def wAll (d : Td) (hs s : Nat) : Nat → Bool
  | 0 => true
  | h + 1 => wAll d hs s h && (!hs.testBit h || wAny d s h (d 2))

theorem l_X12_isWatched1 {Q : Rq} {M : Mem} {d : Td} {hs s h : Nat} {b : Bool} (h5 : ∀ k, k < 521 → M.1 5 k = nI (d k)) (wf : Wf d) (hss : s < 64) (hh : h < 24) (k : Ru 2 mt_X12_isWatched r_z 74 [(4, some (.int (r_b (b || wAny d s h (d 2))))), (0, some (.ref 0)), (1, some (.int (nI hs))), (2, some (.int (nI s))), (3, some (.int (nI h)))] [] GY M Q) : ∀ (w p : Nat), d 2 - p = w → p ≤ d 2 → Ru 2 mt_X12_isWatched r_z 26 [(4, some (.int (r_b (b || wAny d s h p)))), (5, some (.int (nI p))), (0, some (.ref 0)), (1, some (.int (nI hs))), (2, some (.int (nI s))), (3, some (.int (nI h)))] [] GY M Q := by
  intro w
  have hb := wf.1
  induction w using Nat.strongRecOn with
  | ind w ih =>
    intro p hw hp
    subst hw
    refine Ru_iload (pc := 26) dX12_isWatched_26 rfl ?_
    refine Ru_aload_n (pc := 28) dX12_isWatched_28 rfl rfl ?_
    refine Ru_getR (pc := 29) 5 dX12_isWatched_29 fl_X12_35 rfl rfl rfl ?_
    refine Ru_iconst (pc := 32) (nI 2) dX12_isWatched_32 rfl ?_
    refine Ru_iald (pc := 33) dX12_isWatched_33 rfl (by omega) ?_
    refine Ru_top (h5 2 (by omega)) ?_
    refine Ru_icmp_geN (pc := 34) 74 dX12_isWatched_34 (by decide) (by omega) (fun h1 => ?_) (fun h1 => ?_)
    · have ep : p = d 2 := by omega
      rw [ep]
      exact Ru_weak k rfl
    · refine Ru_iload (pc := 37) dX12_isWatched_37 rfl ?_
      refine Ru_if_neB (pc := 39) 61 dX12_isWatched_39 (by decide) (fun h2 => ?_) (fun h2 => ?_)
      · refine Ru_iconst (pc := 61) (nI 1) dX12_isWatched_61 rfl ?_
        refine Ru_goto (pc := 62) 66 dX12_isWatched_62 (by decide) ?_
        refine Ru_istore (pc := 66) dX12_isWatched_66 rfl (by decide) ?_
        refine Ru_iincN (pc := 68) 1 dX12_isWatched_68 rfl rfl rfl (by decide) ?_
        refine Ru_goto (pc := 71) 26 dX12_isWatched_71 (by decide) ?_
        have e : (b || wAny d s h (p + 1)) = true := by
          rw [wAny, ← Bool.or_assoc]
          first | (simp [*]; done) | (simp_all; done)
        have hr := ih (d 2 - (p + 1)) (by omega) (p + 1) rfl (by omega)
        rw [e] at hr
        exact Ru_weak hr rfl
      · refine Ru_iload_n (pc := 42) dX12_isWatched_42 rfl rfl ?_
        refine Ru_iload (pc := 43) dX12_isWatched_43 rfl ?_
        refine Ru_cs2 (pc := 45) dX12_isWatched_45 ms_X12_372 (by decide) (Nat.le_of_ble_eq_true rfl) (c_X12_has (by omega) (by omega) ?_) 
        refine Ru_if_eqB (pc := 48) 65 dX12_isWatched_48 (by decide) (fun h3 => ?_) (fun h3 => ?_)
        · refine Ru_iconst (pc := 65) (nI 0) dX12_isWatched_65 rfl ?_
          refine Ru_istore (pc := 66) dX12_isWatched_66 rfl (by decide) ?_
          refine Ru_iincN (pc := 68) 1 dX12_isWatched_68 rfl rfl rfl (by decide) ?_
          refine Ru_goto (pc := 71) 26 dX12_isWatched_71 (by decide) ?_
          have e : (b || wAny d s h (p + 1)) = false := by
            rw [wAny, ← Bool.or_assoc]
            first | (simp [*]; done) | (simp_all; done)
          have hr := ih (d 2 - (p + 1)) (by omega) (p + 1) rfl (by omega)
          rw [e] at hr
          exact Ru_weak hr rfl
        · refine Ru_aload_n (pc := 51) dX12_isWatched_51 rfl rfl ?_
          refine Ru_iload (pc := 52) dX12_isWatched_52 rfl ?_
          refine Ru_iload_n (pc := 54) dX12_isWatched_54 rfl rfl ?_
          refine Ru_cv2 (pc := 55) dX12_isWatched_55 mv_X12_346 rfl (by decide) (Nat.le_of_ble_eq_true rfl) (c_X12_isAwakeIn (p := p) (h := h) h5 wf (by omega) (by omega) ?_) 
          refine Ru_if_eqB (pc := 58) 65 dX12_isWatched_58 (by decide) (fun h4 => ?_) (fun h4 => ?_)
          · refine Ru_iconst (pc := 65) (nI 0) dX12_isWatched_65 rfl ?_
            refine Ru_istore (pc := 66) dX12_isWatched_66 rfl (by decide) ?_
            refine Ru_iincN (pc := 68) 1 dX12_isWatched_68 rfl rfl rfl (by decide) ?_
            refine Ru_goto (pc := 71) 26 dX12_isWatched_71 (by decide) ?_
            have e : (b || wAny d s h (p + 1)) = false := by
              rw [wAny, ← Bool.or_assoc]
              first | (simp [*]; done) | (simp_all; done)
            have hr := ih (d 2 - (p + 1)) (by omega) (p + 1) rfl (by omega)
            rw [e] at hr
            exact Ru_weak hr rfl
          · refine Ru_iconst (pc := 61) (nI 1) dX12_isWatched_61 rfl ?_
            refine Ru_goto (pc := 62) 66 dX12_isWatched_62 (by decide) ?_
            refine Ru_istore (pc := 66) dX12_isWatched_66 rfl (by decide) ?_
            refine Ru_iincN (pc := 68) 1 dX12_isWatched_68 rfl rfl rfl (by decide) ?_
            refine Ru_goto (pc := 71) 26 dX12_isWatched_71 (by decide) ?_
            have e : (b || wAny d s h (p + 1)) = true := by
              rw [wAny, ← Bool.or_assoc]
              first | (simp [*]; done) | (simp_all; done)
            have hr := ih (d 2 - (p + 1)) (by omega) (p + 1) rfl (by omega)
            rw [e] at hr
            exact Ru_weak hr rfl
