theorem tw_252 : (Cond.methodLink "OverNight$Tokens" (3 : Nat) ({ cls := "java/lang/Object", name := "<init>", desc := "()V" } : Jvm.MethodName)) ∈ r_W := r_W_of (List.mem_append_right _ (List.mem_of_getElem? (i := 252) (by decide +kernel))) (by decide +kernel)
theorem tw_337 : (Cond.arrayClass FieldType.byte) ∈ r_W := r_W_of (List.mem_append_right _ (List.mem_of_getElem? (i := 337) (by decide +kernel))) (by decide +kernel)
def r_longer (w : Int64) (x : Int32) : Int64 := w * 27 + (x - nI 97 + nI 1).toInt64
theorem c_X8_longer {w : Int64} {x : Int32} {G : Wd} {M : Mem} {Q : Rq} (k : Q (some (.long (r_longer w x))) G M) : Ca 0 mt_X8_longer 0 0 [.long w, .int x] G M Q := by
  refine Ca_of rfl (Nat.le_of_ble_eq_true rfl) ?_
  refine Ru_lload_n (pc := 0) dX8_longer_0 rfl rfl ?_
  refine Ru_ldc2 (pc := 1) dX8_longer_1 tw_305 ?_
  refine Ru_lmul (pc := 4) dX8_longer_4 ?_
  refine Ru_iload_n (pc := 5) dX8_longer_5 rfl rfl ?_
  refine Ru_bipush (pc := 6) (nI 97) dX8_longer_6 rfl ?_
  refine Ru_isub (pc := 8) dX8_longer_8 ?_
  refine Ru_iconst (pc := 9) (nI 1) dX8_longer_9 rfl ?_
  refine Ru_iadd (pc := 10) dX8_longer_10 ?_
  refine Ru_i2l (pc := 11) _ dX8_longer_11 rfl ?_
  refine Ru_ladd (pc := 12) dX8_longer_12 ?_
  exact Ru_lret (pc := 13) dX8_longer_13 rfl ⟨Nat.le_refl _, Nat.le_refl _⟩ k
def r_rs : Nat → Nat × (Nat → Int64)
  | 0 => (0, fun _ => 0)
  | i + 1 => if r_cd 0 i = 32 then ((r_rs i).1 + 1, (r_rs i).2) else ((r_rs i).1, vp_updL (r_rs i).2 (r_rs i).1 (r_longer ((r_rs i).2 (r_rs i).1) (nI (r_cd 0 i))))
def r_rk : Nat → Nat
  | 0 => 0
  | i + 1 => if r_cd 0 i = 32 then r_rk i + 1 else r_rk i
theorem r_rk_eq : ∀ i, (r_rs i).1 = r_rk i
  | 0 => rfl
  | i + 1 => by
    unfold r_rs r_rk
    split <;> simp [r_rk_eq i]
theorem r_rk_lt : ∀ i, i < 136 → r_rk i < 28 := by decide +kernel
def tc_X8s : Mem := (r_sI (r_sI (r_sR (r_nw (r_sR (r_nw (r_sR (r_nw (r_sR (r_nw (r_sR (r_nw r_Z 1) 0 0 (some 1)) 2) 0 2 (some 2)) 3) 0 3 (some 3)) 4) 0 4 (some 4)) 5) 0 5 (some 5)) 0 7 (-1)) 0 8 (-1))
theorem r_wJ_sJ (T : Mem) (o k : Nat) (f : Nat → Int64) (v : Int64) : r_sJ (r_wJ T o f) o k v = r_wJ T o (vp_updL f k v) := by
  apply Mem_ext
  · intro x
    rfl
  · intro x
    by_cases h : x = o <;> simp [r_sJ, r_wJ, h]
  · intro x
    rfl
theorem r_wJ_self (T : Mem) (o : Nat) : r_wJ T o (T.2.1 o) = T := by
  apply Mem_ext
  · intro x
    rfl
  · intro x
    by_cases h : x = o <;> simp [r_wJ, h]
  · intro x
    rfl
theorem r_ov_J (o i : Nat) (T M : Mem) : (r_ov o T M).2.1 (o + i) = T.2.1 i := by
  have h0 : ¬ o + i < o := by omega
  simp [r_ov, h0]
set_option maxRecDepth 8000 in
theorem ti_loop {l : List (Nat × Nat)} {M : Mem} {Q : Rq} (k : Q none (Wo l [(8, 9), (102, 800), (101, 28), (100, 801), (100, 801), (101, 801)]) (r_ov l.length (r_wJ tc_X8s 2 (r_rs 136).2) M)) : ∀ n i, i + n = 136 → Ru 4 mt_X8_init ((5, 3231), (5, 3231)) 62 [(2, some (.int (nI i))), (1, some (.int (nI (r_rs i).1))), (0, some (.ref l.length))] [] (Wo l [(8, 9), (102, 800), (101, 28), (100, 801), (100, 801), (101, 801)]) (r_ov l.length (r_wJ tc_X8s 2 (r_rs i).2) M) Q := by
  intro n
  induction n with
  | zero =>
    intro i hi
    have : i = 136 := by omega
    subst this
    refine Ru_iload_n (pc := 62) dX8_init_62 rfl rfl ?_
    refine Ru_ldcS (pc := 63) (k := 0) dX8_init_63 rfl (Or.inl ⟨rfl, rfl, rfl⟩) ?_
    refine Ru_callSV (pc := 65) (As := []) (d' := 1) (by decide) dX8_init_65 sv_T38 (by decide) rfl rfl (Nat.le_of_ble_eq_true rfl) ⟨by decide, by decide⟩ ?_
    refine c_slength (by decide) ?_
    refine Ru_icmp_geN (pc := 68) 124 dX8_init_68 (by decide) (by decide) (fun h => ?_) (fun h => absurd h (by decide))
    refine Ru_vret (pc := 124) dX8_init_124 rfl ⟨by decide, by decide⟩ k
  | succ n ih =>
    intro i hi
    have hi2 : i < r_len.getD 0 0 := by show i < 136; omega
    have hk : (r_rs i).1 < 28 := by rw [r_rk_eq]; exact r_rk_lt i (by omega)
    obtain ⟨h1, h2, h3⟩ := r_cd_ok 0 (by decide) i hi2
    refine Ru_iload_n (pc := 62) dX8_init_62 rfl rfl ?_
    refine Ru_ldcS (pc := 63) (k := 0) dX8_init_63 rfl (Or.inl ⟨rfl, rfl, rfl⟩) ?_
    refine Ru_callSV (pc := 65) (As := []) (d' := 1) (by decide) dX8_init_65 sv_T38 (by decide) rfl rfl (Nat.le_of_ble_eq_true rfl) ⟨by decide, by decide⟩ ?_
    refine c_slength (by decide) ?_
    refine Ru_icmp_geN (pc := 68) 124 dX8_init_68 (by decide) ⟨by omega, by decide⟩ (fun h => absurd hi2 (by omega)) (fun h => ?_)
    refine Ru_iload_n (pc := 71) dX8_init_71 rfl rfl ?_
    refine Ru_aload_n (pc := 72) dX8_init_72 rfl rfl ?_
    refine Ro_getR (i := 0) (j := 2) (pc := 73) dX8_init_73 fl_X8_15 rfl rfl rfl ?_
    refine Ro_alen (i := 2) (pc := 76) dX8_init_76 rfl (by decide) ?_
    refine Ru_icmp_geN (pc := 77) 124 dX8_init_77 (by decide) ⟨by omega, by decide⟩ (fun h => absurd h (by omega)) (fun h => ?_)
    refine Ru_ldcS (pc := 80) (k := 0) dX8_init_80 rfl (Or.inl ⟨rfl, rfl, rfl⟩) ?_
    refine Ru_iload_n (pc := 82) dX8_init_82 rfl rfl ?_
    refine Ru_callSV (pc := 83) (As := [.int (nI i)]) (d' := 3) (by decide) dX8_init_83 sv_T44 (by decide) rfl rfl (Nat.le_of_ble_eq_true rfl) ⟨by decide, by decide⟩ ?_
    refine c_charAt (by decide) hi2 ?_
    refine Ru_bipush (pc := 86) (nI 32) dX8_init_86 rfl ?_
    have hit := ih (i + 1) (by omega)
    refine Ru_icmp_neN (pc := 88) 97 dX8_init_88 (by decide) ⟨by omega, by decide⟩ (fun hne => ?_) (fun he => ?_)
    · have e1 : r_rs (i + 1) = ((r_rs i).1, vp_updL (r_rs i).2 (r_rs i).1 (r_longer ((r_rs i).2 (r_rs i).1) (nI (r_cd 0 i)))) := by
        rw [r_rs, if_neg hne]
      rw [e1] at hit
      refine Ru_aload_n (pc := 97) dX8_init_97 rfl rfl ?_
      refine Ro_getR (i := 0) (j := 2) (pc := 98) dX8_init_98 fl_X8_15 rfl rfl rfl ?_
      refine Ru_iload_n (pc := 101) dX8_init_101 rfl rfl ?_
      refine Ru_aload_n (pc := 102) dX8_init_102 rfl rfl ?_
      refine Ro_getR (i := 0) (j := 2) (pc := 103) dX8_init_103 fl_X8_15 rfl rfl rfl ?_
      refine Ru_iload_n (pc := 106) dX8_init_106 rfl rfl ?_
      refine Ru_lald (pc := 107) dX8_init_107 (Wo_at (i := 2) rfl) ⟨hk, by decide⟩ ?_
      refine Ru_topL (congrFun (r_ov_J l.length 2 _ M) _) ?_
      refine Ru_ldcS (pc := 108) (k := 0) dX8_init_108 rfl (Or.inl ⟨rfl, rfl, rfl⟩) ?_
      refine Ru_iload_n (pc := 110) dX8_init_110 rfl rfl ?_
      refine Ru_callSV (pc := 111) (As := [.int (nI i)]) (d' := 3) (by decide) dX8_init_111 sv_T44 (by decide) rfl rfl (Nat.le_of_ble_eq_true rfl) ⟨by decide, by decide⟩ ?_
      refine c_charAt (by decide) hi2 ?_
      refine Ru_csG (pc := 114) (As := [.long _, .int _]) (d' := 0) dX8_init_114 ms_X8_48 (by decide) rfl rfl (Nat.le_of_ble_eq_true rfl) ⟨by decide, by decide⟩ ?_
      refine c_X8_longer ?_
      refine Ro_last (i := 2) (pc := 117) dX8_init_117 rfl ⟨hk, by decide⟩ ?_
      rw [r_wJ_sJ]
      refine Ru_iincN (pc := 118) 1 dX8_init_118 rfl rfl rfl (by decide) ?_
      refine Ru_goto (pc := 121) 62 dX8_init_121 (by decide) ?_
      exact Ru_weak hit rfl
    · have e1 : r_rs (i + 1) = ((r_rs i).1 + 1, (r_rs i).2) := by
        rw [r_rs, if_pos he]
      rw [e1] at hit
      refine Ru_iincN (pc := 91) 1 dX8_init_91 rfl rfl rfl (by decide) ?_
      refine Ru_goto (pc := 94) 118 dX8_init_94 (by decide) ?_
      refine Ru_iincN (pc := 118) 1 dX8_init_118 rfl rfl rfl (by decide) ?_
      refine Ru_goto (pc := 121) 62 dX8_init_121 (by decide) ?_
      exact Ru_weak hit rfl
def tc_X8 : Mem := r_wJ tc_X8s 2 (r_rs 136).2
set_option maxRecDepth 8000 in
theorem ci_X8 {l : List (Nat × Nat)} {M : Mem} {Q : Rq} (hl : l.length < 600) (k : Q none (Wo l [(8, 9), (102, 800), (101, 28), (100, 801), (100, 801), (101, 801)]) (r_ov l.length tc_X8 M)) : Ca 4 mt_X8_init 5 3231 [.ref l.length] (Wo l [(8, 9)]) (r_ov l.length r_Z M) Q := by
  refine Ca_of rfl (Nat.le_of_ble_eq_true rfl) ?_
  refine Ru_aload_n (pc := 0) dX8_init_0 rfl rfl ?_
  refine Ru_obj (pc := 1) dX8_init_1 tw_252 tw_28 tw_29 (by decide) (Nat.le_of_ble_eq_true rfl) ?_
  refine Ru_aload_n (pc := 4) dX8_init_4 rfl rfl ?_
  refine Ru_sipush (pc := 5) (nI 800) dX8_init_5 rfl ?_
  refine Ro_newa (pc := 8) 1 [(8, 9), (102, 800)] (1, 800) (by omega) rfl rfl dX8_init_8 rfl (Or.inr (Or.inr (Or.inl ⟨rfl, rfl⟩))) tw_337 (by decide) rfl ⟨by decide, by decide⟩ ?_
  refine Ro_putR (i := 0) (j := 1) (pc := 10) (Or.inr ⟨rfl, TX8, rfl⟩) dX8_init_10 fl_X8_9 rfl rfl ?_
  refine Ru_aload_n (pc := 13) dX8_init_13 rfl rfl ?_
  refine Ru_bipush (pc := 14) (nI 28) dX8_init_14 rfl ?_
  refine Ro_newa (pc := 16) 2 [(8, 9), (102, 800), (101, 28)] (2, 828) (by omega) rfl rfl dX8_init_16 rfl (Or.inr (Or.inl ⟨rfl, rfl⟩)) tw_64 (by decide) rfl ⟨by decide, by decide⟩ ?_
  refine Ro_putR (i := 0) (j := 2) (pc := 18) (Or.inr ⟨rfl, TX8, rfl⟩) dX8_init_18 fl_X8_15 rfl rfl ?_
  refine Ru_aload_n (pc := 21) dX8_init_21 rfl rfl ?_
  refine Ru_sipush (pc := 22) (nI 801) dX8_init_22 rfl ?_
  refine Ro_newa (pc := 25) 3 [(8, 9), (102, 800), (101, 28), (100, 801)] (3, 1629) (by omega) rfl rfl dX8_init_25 rfl (Or.inl ⟨rfl, rfl⟩) tw_95 (by decide) rfl ⟨by decide, by decide⟩ ?_
  refine Ro_putR (i := 0) (j := 3) (pc := 27) (Or.inr ⟨rfl, TX8, rfl⟩) dX8_init_27 fl_X8_19 rfl rfl ?_
  refine Ru_aload_n (pc := 30) dX8_init_30 rfl rfl ?_
  refine Ru_sipush (pc := 31) (nI 801) dX8_init_31 rfl ?_
  refine Ro_newa (pc := 34) 4 [(8, 9), (102, 800), (101, 28), (100, 801), (100, 801)] (4, 2430) (by omega) rfl rfl dX8_init_34 rfl (Or.inl ⟨rfl, rfl⟩) tw_95 (by decide) rfl ⟨by decide, by decide⟩ ?_
  refine Ro_putR (i := 0) (j := 4) (pc := 36) (Or.inr ⟨rfl, TX8, rfl⟩) dX8_init_36 fl_X8_23 rfl rfl ?_
  refine Ru_aload_n (pc := 39) dX8_init_39 rfl rfl ?_
  refine Ru_sipush (pc := 40) (nI 801) dX8_init_40 rfl ?_
  refine Ro_newa (pc := 43) 5 [(8, 9), (102, 800), (101, 28), (100, 801), (100, 801), (101, 801)] (5, 3231) (by omega) rfl rfl dX8_init_43 rfl (Or.inr (Or.inl ⟨rfl, rfl⟩)) tw_64 (by decide) rfl ⟨by decide, by decide⟩ ?_
  refine Ro_putR (i := 0) (j := 5) (pc := 45) (Or.inr ⟨rfl, TX8, rfl⟩) dX8_init_45 fl_X8_26 rfl rfl ?_
  refine Ru_aload_n (pc := 48) dX8_init_48 rfl rfl ?_
  refine Ru_iconst (pc := 49) (-1) dX8_init_49 rfl ?_
  refine Ro_putI (i := 0) (pc := 50) (Or.inl rfl) dX8_init_50 fl_X8_29 rfl ?_
  refine Ru_aload_n (pc := 53) dX8_init_53 rfl rfl ?_
  refine Ru_iconst (pc := 54) (-1) dX8_init_54 rfl ?_
  refine Ro_putI (i := 0) (pc := 55) (Or.inl rfl) dX8_init_55 fl_X8_33 rfl ?_
  refine Ru_iconst (pc := 58) (nI 0) dX8_init_58 rfl ?_
  refine Ru_istore_n (pc := 59) dX8_init_59 rfl rfl (by decide) ?_
  refine Ru_iconst (pc := 60) (nI 0) dX8_init_60 rfl ?_
  refine Ru_istore_n (pc := 61) dX8_init_61 rfl rfl (by decide) ?_
  refine Ro_self (t1 := [(8, 9), (102, 800), (101, 28), (100, 801), (100, 801), (101, 801)]) (T1 := r_wJ tc_X8s 2 (r_rs 0).2) rfl (r_wJ_self tc_X8s 2).symm ?_
  exact ti_loop k 136 0 (by omega)
