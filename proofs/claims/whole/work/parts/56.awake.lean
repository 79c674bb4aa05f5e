-- WHO IS AWAKE
def awA (d : Td) (s : Nat) : Nat → Nat
  | 0 => 0
  | n + 1 => if s.testBit n then awA d s n ||| bt (awB (d (89 + n)) (d (95 + n))) 24 else awA d s n
theorem awA_lt (d : Td) (s : Nat) : ∀ n, awA d s n < 2 ^ 24
  | 0 => by simp [awA]
  | n + 1 => by
    unfold awA
    split
    · exact r_or_lt (awA_lt d s n) (bt_lt (fun i _ => awB_le _ _ i))
    · exact awA_lt d s n
theorem awB_d {f t h : Nat} : decide (awB f t h = 1) = aw f t h := by
  unfold awB
  cases aw f t h <;> rfl
theorem awA_tb (d : Td) (s h : Nat) (hh : h < 24) : ∀ n, (awA d s n).testBit h = (List.range n).any (fun p => s.testBit p && aw (d (89 + p)) (d (95 + p)) h)
  | 0 => by simp [awA]
  | n + 1 => by
    rw [List.range_succ, List.any_append, ← awA_tb d s h hh n]
    rw [show awA d s (n + 1) = if s.testBit n then awA d s n ||| bt (awB (d (89 + n)) (d (95 + n))) 24 else awA d s n from rfl]
    cases hb : s.testBit n
    · simp [hb]
    · simp only [if_true, List.any_cons, List.any_nil, hb, Bool.true_and, Bool.or_false]
      rw [Nat.testBit_or, bt_tb (fun i _ => awB_le _ _ i) hh, awB_d]

theorem l_X9_awakeAmong {Q : Rq} {M : Mem} {t s : Nat} {d : Td} (ht : isTown t) (hx : X_tm t d M) (wf : Wf d) (hs : s < 256) (k : Q (some (.int (nI (awA d s (d 2))))) GX M) : ∀ (w p : Nat), d 2 - p = w → p ≤ d 2 → Ru 0 mt_X9_awakeAmong r_z 4 [(2, some (.int (nI (awA d s p)))), (3, some (.int (nI p))), (0, some (.ref t)), (1, some (.int (nI s)))] [] GX M Q := by
  intro w
  have hb := wf.1
  induction w using Nat.strongRecOn with
  | ind w ih =>
    intro p hw hp
    subst hw
    refine Ru_iload_n (pc := 4) dX9_awakeAmong_4 rfl rfl ?_
    refine Ru_aload_n (pc := 5) dX9_awakeAmong_5 rfl rfl ?_
    refine Ru_getR (pc := 6) (t + 10) dX9_awakeAmong_6 fl_X9_39 (shTown_0 ht) rfl (rfX_of (o := t) (j := 10) (shTown_0 ht) rfl) ?_
    refine Ru_getI (pc := 9) dX9_awakeAmong_9 fl_X9_93 (shNames_0 (isNames_t ht).2.2) rfl ?_
    refine Ru_top hx.1.2.2.1 ?_
    refine Ru_icmp_geN (pc := 12) 38 dX9_awakeAmong_12 (by decide) (by omega) (fun h1 => ?_) (fun h1 => ?_)
    · refine Ru_iload_n (pc := 38) dX9_awakeAmong_38 rfl rfl ?_
      refine Ru_iret (pc := 39) dX9_awakeAmong_39 rfl ⟨Nat.le_refl _, Nat.le_refl _⟩ ?_
      have ep : p = d 2 := by omega
      rw [ep]
      exact k
    · refine Ru_iload_n (pc := 15) dX9_awakeAmong_15 rfl rfl ?_
      refine Ru_iload_n (pc := 16) dX9_awakeAmong_16 rfl rfl ?_
      refine Ru_ishrN (pc := 17) dX9_awakeAmong_17 (by omega) ?_
      refine Ru_iconst (pc := 18) (nI 1) dX9_awakeAmong_18 rfl ?_
      refine Ru_iandN (pc := 19) dX9_awakeAmong_19 ?_
      refine Ru_if_eqN (pc := 20) 32 dX9_awakeAmong_20 (by decide) (Nat.lt_of_le_of_lt Nat.and_le_right (by decide)) (fun h2 => ?_) (fun h2 => ?_)
      · refine Ru_iincN (pc := 32) 1 dX9_awakeAmong_32 rfl rfl rfl (by decide) ?_
        refine Ru_goto (pc := 35) 4 dX9_awakeAmong_35 (by decide) ?_
        have hq := r_bit_and1 s p
        have e : awA d s (p + 1) = (awA d s p) := by
          rw [awA]
          cases hb : s.testBit p
          all_goals simp_all
        have hr := ih (d 2 - (p + 1)) (by omega) (p + 1) rfl (by omega)
        rw [e] at hr
        exact Ru_weak hr rfl
      · refine Ru_iload_n (pc := 23) dX9_awakeAmong_23 rfl rfl ?_
        refine Ru_aload_n (pc := 24) dX9_awakeAmong_24 rfl rfl ?_
        refine Ru_getR (pc := 25) (t + 12) dX9_awakeAmong_25 fl_X9_42 (shTown_0 ht) rfl (rfX_of (o := t) (j := 12) (shTown_0 ht) rfl) ?_
        refine Ru_iload_n (pc := 28) dX9_awakeAmong_28 rfl rfl ?_
        refine Ru_iald (pc := 29) dX9_awakeAmong_29 (shTown_12 ht) (by omega) ?_
        refine Ru_top (hx.2.2.2.1 p (by omega)).1 ?_
        refine Ru_iorN (pc := 30) dX9_awakeAmong_30 ?_
        refine Ru_istore_n (pc := 31) dX9_awakeAmong_31 rfl rfl (by decide) ?_
        refine Ru_iincN (pc := 32) 1 dX9_awakeAmong_32 rfl rfl rfl (by decide) ?_
        refine Ru_goto (pc := 35) 4 dX9_awakeAmong_35 (by decide) ?_
        have hq := r_bit_and1 s p
        have e : awA d s (p + 1) = ((awA d s p) ||| (bt (awB (d (89 + p)) (d (95 + p))) 24)) := by
          rw [awA]
          cases hb : s.testBit p
          all_goals simp_all
        have hr := ih (d 2 - (p + 1)) (by omega) (p + 1) rfl (by omega)
        rw [e] at hr
        exact Ru_weak hr rfl

theorem c_X9_awakeAmong {Q : Rq} {M : Mem} {t s : Nat} {d : Td} (ht : isTown t) (hx : X_tm t d M) (wf : Wf d) (hs : s < 256) (k : Q (some (.int (nI (awA d s (d 2))))) GX M) : Ca 0 mt_X9_awakeAmong 0 0 [.ref t, .int (nI s)] GX M Q := by
  refine Ca_of rfl (Nat.le_of_ble_eq_true rfl) ?_
  refine Ru_iconst (pc := 0) (nI 0) dX9_awakeAmong_0 rfl ?_
  refine Ru_istore_n (pc := 1) dX9_awakeAmong_1 rfl rfl (by decide) ?_
  refine Ru_iconst (pc := 2) (nI 0) dX9_awakeAmong_2 rfl ?_
  refine Ru_istore_n (pc := 3) dX9_awakeAmong_3 rfl rfl (by decide) ?_
  exact Ru_weak (l_X9_awakeAmong ht hx wf hs k (d 2) 0 rfl (by omega)) rfl
