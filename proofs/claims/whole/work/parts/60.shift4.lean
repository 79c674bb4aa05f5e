theorem pop8_le (s : Nat) : pop8 s ≤ 8 := by
  unfold pop8
  have h : ∀ x : Nat, x &&& 1 ≤ 1 := fun x => Nat.and_le_right
  have := h s
  have := h (s >>> 1)
  have := h (s >>> 2)
  have := h (s >>> 3)
  have := h (s >>> 4)
  have := h (s >>> 5)
  have := h (s >>> 6)
  have := h (s >>> 7)
  omega
def shB (d : Td) (hs : Nat) : Nat → Nat
  | 0 => 0
  | n + 1 => if (shB d hs n = 0 ∨ pop8 n < pop8 (shB d hs n - 1)) ∧ wAll d hs n 24 = true then n + 1 else shB d hs n
theorem shB_le (d : Td) (hs : Nat) : ∀ n, shB d hs n ≤ n
  | 0 => Nat.le_refl _
  | n + 1 => by
    have := shB_le d hs n
    rw [shB]
    split <;> omega
def g_shift (d : Td) (h : Int32) : Int32 × Nat := if ¬ (0 ≤ h.toInt ∧ h.toInt ≤ 16777215) then (-1, 5) else if shB d h.toInt.toNat (2 ^ d 2) = 0 then (-1, 9) else (nM (shB d h.toInt.toNat (2 ^ d 2)), 0)

theorem l_X12_shift {Q : Rq} {M : Mem} {d : Td} {hs : Nat} (hc : ∀ k, k < 521 → M.1 5 k = nI (d k)) (wf : Wf d) (hhs : hs < 16777216) (k9 : shB d hs (2 ^ d 2) = 0 → Q (some (.int (-1))) GY (r_sI M 0 0 (nI 9))) (k0 : ¬ shB d hs (2 ^ d 2) = 0 → Q (some (.int (nM (shB d hs (2 ^ d 2))))) GY M) : ∀ (w n : Nat), 2 ^ d 2 - n = w → n ≤ 2 ^ d 2 → Ru 3 mt_X12_shift r_z 32 [(2, some (.int (nM (shB d hs n)))), (3, some (.int (nI n))), (0, some (.ref 0)), (1, some (.int (nI hs)))] [] GY M Q := by
  intro w
  have hb := wf.1
  have hp : 0 < 2 ^ d 2 ∧ 2 ^ d 2 ≤ 64 := ⟨Nat.two_pow_pos _, Nat.le_trans (Nat.pow_le_pow_right (by decide) hb.2.2.1) (by decide)⟩
  induction w using Nat.strongRecOn with
  | ind w ih =>
    intro n hw hn
    subst hw
    have hl := shB_le d hs n
    have hz : (nM (shB d hs n)).toInt = (shB d hs n : Int) - 1 := nM_t (by omega)
    refine Ru_iload_n (pc := 32) dX12_shift_32 rfl rfl ?_
    refine Ru_iconst (pc := 33) (nI 1) dX12_shift_33 rfl ?_
    refine Ru_aload_n (pc := 34) dX12_shift_34 rfl rfl ?_
    refine Ru_getR (pc := 35) 5 dX12_shift_35 fl_X12_35 rfl rfl rfl ?_
    refine Ru_iconst (pc := 38) (nI 2) dX12_shift_38 rfl ?_
    refine Ru_iald (pc := 39) dX12_shift_39 rfl (by omega) ?_
    refine Ru_top (hc 2 (by omega)) ?_
    refine Ru_ishl1N (pc := 40) dX12_shift_40 (by omega) ?_
    refine Ru_icmp_geN (pc := 41) 76 dX12_shift_41 (by decide) (by omega) (fun h1 => ?_) (fun h1 => ?_)
    · refine Ru_iload_n (pc := 76) dX12_shift_76 rfl rfl ?_
      refine Ru_if_geT (pc := 77) 89 dX12_shift_77 (by decide) (fun h2 => ?_) (fun h2 => ?_)
      · refine Ru_iload_n (pc := 89) dX12_shift_89 rfl rfl ?_
        refine Ru_iret (pc := 90) dX12_shift_90 rfl ⟨Nat.le_refl _, Nat.le_refl _⟩ ?_
        have en : n = 2 ^ d 2 := by omega
        have q : ¬ shB d hs n = 0 := by omega
        rw [en] at q ⊢
        exact k0 q
      · refine Ru_aload_n (pc := 80) dX12_shift_80 rfl rfl ?_
        refine Ru_bipush (pc := 81) (nI 9) dX12_shift_81 rfl ?_
        refine Ru_cv1 (pc := 83) dX12_shift_83 mv_X12_351 rfl (by decide) (Nat.le_of_ble_eq_true rfl) (c_X12_refuse ?_) 
        refine Ru_goto (pc := 86) 90 dX12_shift_86 (by decide) ?_
        refine Ru_iret (pc := 90) dX12_shift_90 rfl ⟨Nat.le_refl _, Nat.le_refl _⟩ ?_
        have en : n = 2 ^ d 2 := by omega
        have q : shB d hs n = 0 := by omega
        rw [en] at q
        exact k9 q
    · refine Ru_iload_n (pc := 44) dX12_shift_44 rfl rfl ?_
      refine Ru_if_ltT (pc := 45) 59 dX12_shift_45 (by decide) (fun h3 => ?_) (fun h3 => ?_)
      · refine Ru_aload_n (pc := 59) dX12_shift_59 rfl rfl ?_
        refine Ru_iload_n (pc := 60) dX12_shift_60 rfl rfl ?_
        refine Ru_iload_n (pc := 61) dX12_shift_61 rfl rfl ?_
        refine Ru_cv2 (pc := 62) dX12_shift_62 mv_X12_483 rfl (by decide) (Nat.le_of_ble_eq_true rfl) (c_X12_isWatched hc wf (by omega) (by omega) ?_) 
        refine Ru_if_eqB (pc := 65) 70 dX12_shift_65 (by decide) (fun h4 => ?_) (fun h4 => ?_)
        · refine Ru_iincN (pc := 70) 1 dX12_shift_70 rfl rfl rfl (by decide) ?_
          refine Ru_goto (pc := 73) 32 dX12_shift_73 (by decide) ?_
          have e : shB d hs (n + 1) = shB d hs n := by
            rw [shB]
            refine if_neg (fun z => ?_)
            first | (rw [hx] at z; have z1 := z.1; rw [Nat.add_sub_cancel] at z1; omega) | (have z2 := z.2; simp_all; done)
          have hr := ih (2 ^ d 2 - (n + 1)) (by omega) (n + 1) rfl (by omega)
          rw [e] at hr
          exact Ru_weak hr rfl
        · refine Ru_iload_n (pc := 68) dX12_shift_68 rfl rfl ?_
          refine Ru_istore_n (pc := 69) dX12_shift_69 rfl rfl (by decide) ?_
          refine Ru_iincN (pc := 70) 1 dX12_shift_70 rfl rfl rfl (by decide) ?_
          refine Ru_goto (pc := 73) 32 dX12_shift_73 (by decide) ?_
          have e : shB d hs (n + 1) = n + 1 := by
            rw [shB]
            refine if_pos ⟨?_, by assumption⟩
            first | (left; omega) | (right; rw [hx]; assumption)
          have hr := ih (2 ^ d 2 - (n + 1)) (by omega) (n + 1) rfl (by omega)
          rw [e] at hr
          exact Ru_weak hr rfl
      · obtain ⟨x, hx⟩ : ∃ x, shB d hs n = x + 1 := ⟨shB d hs n - 1, by omega⟩
        rw [hx]
        have lx : x < n := by omega
        refine Ru_iload_n (pc := 48) dX12_shift_48 rfl rfl ?_
        refine Ru_cs1 (pc := 49) dX12_shift_49 ms_X12_480 (by decide) (Nat.le_of_ble_eq_true rfl) (c_X12_bits (s := n) (by omega) ?_) 
        refine Ru_iload_n (pc := 52) dX12_shift_52 rfl rfl ?_
        refine Ru_cs1 (pc := 53) dX12_shift_53 ms_X12_480 (by decide) (Nat.le_of_ble_eq_true rfl) (c_X12_bits (s := x) (by omega) ?_) 
        refine Ru_icmp_geN (pc := 56) 70 dX12_shift_56 (by decide) ⟨Nat.lt_of_le_of_lt (pop8_le _) (by decide), Nat.lt_of_le_of_lt (pop8_le _) (by decide)⟩ (fun h5 => ?_) (fun h5 => ?_)
        · refine Ru_iincN (pc := 70) 1 dX12_shift_70 rfl rfl rfl (by decide) ?_
          refine Ru_goto (pc := 73) 32 dX12_shift_73 (by decide) ?_
          have e : shB d hs (n + 1) = shB d hs n := by
            rw [shB]
            refine if_neg (fun z => ?_)
            first | (rw [hx] at z; have z1 := z.1; rw [Nat.add_sub_cancel] at z1; omega) | (have z2 := z.2; simp_all; done)
          have hr := ih (2 ^ d 2 - (n + 1)) (by omega) (n + 1) rfl (by omega)
          rw [e] at hr
          rw [hx] at hr
          exact Ru_weak hr rfl
        · refine Ru_aload_n (pc := 59) dX12_shift_59 rfl rfl ?_
          refine Ru_iload_n (pc := 60) dX12_shift_60 rfl rfl ?_
          refine Ru_iload_n (pc := 61) dX12_shift_61 rfl rfl ?_
          refine Ru_cv2 (pc := 62) dX12_shift_62 mv_X12_483 rfl (by decide) (Nat.le_of_ble_eq_true rfl) (c_X12_isWatched hc wf (by omega) (by omega) ?_) 
          refine Ru_if_eqB (pc := 65) 70 dX12_shift_65 (by decide) (fun h6 => ?_) (fun h6 => ?_)
          · refine Ru_iincN (pc := 70) 1 dX12_shift_70 rfl rfl rfl (by decide) ?_
            refine Ru_goto (pc := 73) 32 dX12_shift_73 (by decide) ?_
            have e : shB d hs (n + 1) = shB d hs n := by
              rw [shB]
              refine if_neg (fun z => ?_)
              first | (rw [hx] at z; have z1 := z.1; rw [Nat.add_sub_cancel] at z1; omega) | (have z2 := z.2; simp_all; done)
            have hr := ih (2 ^ d 2 - (n + 1)) (by omega) (n + 1) rfl (by omega)
            rw [e] at hr
            rw [hx] at hr
            exact Ru_weak hr rfl
          · refine Ru_iload_n (pc := 68) dX12_shift_68 rfl rfl ?_
            refine Ru_istore_n (pc := 69) dX12_shift_69 rfl rfl (by decide) ?_
            refine Ru_iincN (pc := 70) 1 dX12_shift_70 rfl rfl rfl (by decide) ?_
            refine Ru_goto (pc := 73) 32 dX12_shift_73 (by decide) ?_
            have e : shB d hs (n + 1) = n + 1 := by
              rw [shB]
              refine if_pos ⟨?_, by assumption⟩
              first | (left; omega) | (right; rw [hx]; assumption)
            have hr := ih (2 ^ d 2 - (n + 1)) (by omega) (n + 1) rfl (by omega)
            rw [e] at hr
            exact Ru_weak hr rfl
