theorem c_J9_minN {a1 b1 : Nat} {G : Wd} {M : Mem} {Q : Rq} (h : a1 < 2147483648 ∧ b1 < 2147483648) (k : Q (some (.int (nI (min a1 b1)))) G M) : Ca 0 mt_J9_min_7cf53 0 0 [.int (nI a1), .int (nI b1)] G M Q := by
  refine Ca_ofF (by decide +kernel) (Nat.le_of_ble_eq_true rfl) ?_
  refine Ru_iload_n (pc := 0) dJ9_min_7cf53_0 rfl rfl ?_
  refine Ru_iload_n (pc := 1) dJ9_min_7cf53_1 rfl rfl ?_
  refine Ru_icmp_gtN (pc := 2) 9 dJ9_min_7cf53_2 (by decide) (by omega) (fun h1 => ?_) (fun h1 => ?_)
  · refine Ru_iload_n (pc := 9) dJ9_min_7cf53_9 rfl rfl ?_
    refine Ru_iret (pc := 10) dJ9_min_7cf53_10 rfl ⟨Nat.le_refl _, Nat.le_refl _⟩ ?_
    rw [Nat.min_eq_right (by omega)] at k
    exact k
  · refine Ru_iload_n (pc := 5) dJ9_min_7cf53_5 rfl rfl ?_
    refine Ru_goto (pc := 6) 10 dJ9_min_7cf53_6 (by decide) ?_
    refine Ru_iret (pc := 10) dJ9_min_7cf53_10 rfl ⟨Nat.le_refl _, Nat.le_refl _⟩ ?_
    rw [Nat.min_eq_left (by omega)] at k
    exact k
theorem tw_402 : (Cond.methodLink "OverNight$Shelf" (1 : Nat) ({ cls := "java/lang/Object", name := "<init>", desc := "()V" } : Jvm.MethodName)) ∈ r_W := r_W_of (List.mem_append_right _ (List.mem_of_getElem? (i := 402) (by decide +kernel))) (by decide +kernel)
theorem tw_28 : (Cond.instanceMethod ({ cls := "java/lang/Object", name := "<init>", desc := "()V" } : Jvm.MethodName)) ∈ r_W := r_W_of (List.mem_append_right _ (List.mem_of_getElem? (i := 28) (by decide +kernel))) (by decide +kernel)
theorem tw_29 : (Cond.code ({ cls := "java/lang/Object", name := "<init>", desc := "()V" } : Jvm.MethodName) object_method_1_code (1 : Nat) (Option.none : Option FieldType)) ∈ r_W := r_W_of (List.mem_append_right _ (List.mem_of_getElem? (i := 29) (by decide +kernel))) (by decide +kernel)
theorem tw_44 : (Cond.methodLink "OverNight$Names" (3 : Nat) ({ cls := "java/lang/Object", name := "<init>", desc := "()V" } : Jvm.MethodName)) ∈ r_W := r_W_of (List.mem_append_right _ (List.mem_of_getElem? (i := 44) (by decide +kernel))) (by decide +kernel)
theorem tw_64 : (Cond.arrayClass FieldType.long) ∈ r_W := r_W_of (List.mem_append_right _ (List.mem_of_getElem? (i := 64) (by decide +kernel))) (by decide +kernel)
theorem tw_70 : (Cond.methodLink "OverNight$Law" (3 : Nat) ({ cls := "java/lang/Object", name := "<init>", desc := "()V" } : Jvm.MethodName)) ∈ r_W := r_W_of (List.mem_append_right _ (List.mem_of_getElem? (i := 70) (by decide +kernel))) (by decide +kernel)
theorem tw_95 : (Cond.arrayClass FieldType.int) ∈ r_W := r_W_of (List.mem_append_right _ (List.mem_of_getElem? (i := 95) (by decide +kernel))) (by decide +kernel)
theorem tw_101 : (Cond.methodLink "OverNight$Plan" (3 : Nat) ({ cls := "java/lang/Object", name := "<init>", desc := "()V" } : Jvm.MethodName)) ∈ r_W := r_W_of (List.mem_append_right _ (List.mem_of_getElem? (i := 101) (by decide +kernel))) (by decide +kernel)
theorem tw_530 : (Cond.methodLink "OverNight$Tray" (3 : Nat) ({ cls := "java/lang/Object", name := "<init>", desc := "()V" } : Jvm.MethodName)) ∈ r_W := r_W_of (List.mem_append_right _ (List.mem_of_getElem? (i := 530) (by decide +kernel))) (by decide +kernel)
theorem tw_343 : (Cond.methodLink "OverNight$Nights" (3 : Nat) ({ cls := "java/lang/Object", name := "<init>", desc := "()V" } : Jvm.MethodName)) ∈ r_W := r_W_of (List.mem_append_right _ (List.mem_of_getElem? (i := 343) (by decide +kernel))) (by decide +kernel)
theorem tw_382 : (Cond.methodLink "OverNight$Soon" (3 : Nat) ({ cls := "java/lang/Object", name := "<init>", desc := "()V" } : Jvm.MethodName)) ∈ r_W := r_W_of (List.mem_append_right _ (List.mem_of_getElem? (i := 382) (by decide +kernel))) (by decide +kernel)
theorem tw_396 : (Cond.methodLink "OverNight$Alone" (3 : Nat) ({ cls := "java/lang/Object", name := "<init>", desc := "()V" } : Jvm.MethodName)) ∈ r_W := r_W_of (List.mem_append_right _ (List.mem_of_getElem? (i := 396) (by decide +kernel))) (by decide +kernel)
theorem tw_397 : (Cond.classLink "OverNight$Alone" (27 : Nat) "OverNight$Shelf") ∈ r_W := r_W_of (List.mem_append_right _ (List.mem_of_getElem? (i := 397) (by decide +kernel))) (by decide +kernel)
theorem tw_398 : (Cond.instantiable "OverNight$Shelf" (3 : Nat)) ∈ r_W := r_W_of (List.mem_append_right _ (List.mem_of_getElem? (i := 398) (by decide +kernel))) (by decide +kernel)
theorem tw_400 : (Cond.instanceMethod ({ cls := "OverNight$Shelf", name := "<init>", desc := "()V" } : Jvm.MethodName)) ∈ r_W := r_W_of (List.mem_append_right _ (List.mem_of_getElem? (i := 400) (by decide +kernel))) (by decide +kernel)
theorem tw_470 : (Cond.arrayClass FieldType.boolean) ∈ r_W := r_W_of (List.mem_append_right _ (List.mem_of_getElem? (i := 470) (by decide +kernel))) (by decide +kernel)
theorem tw_476 : (Cond.methodLink "OverNight$Deeds" (3 : Nat) ({ cls := "java/lang/Object", name := "<init>", desc := "()V" } : Jvm.MethodName)) ∈ r_W := r_W_of (List.mem_append_right _ (List.mem_of_getElem? (i := 476) (by decide +kernel))) (by decide +kernel)
theorem tw_477 : (Cond.classLink "OverNight$Deeds" (18 : Nat) "OverNight$Shelf") ∈ r_W := r_W_of (List.mem_append_right _ (List.mem_of_getElem? (i := 477) (by decide +kernel))) (by decide +kernel)
theorem tw_38 : (Cond.methodLink "OverNight$Town" (3 : Nat) ({ cls := "java/lang/Object", name := "<init>", desc := "()V" } : Jvm.MethodName)) ∈ r_W := r_W_of (List.mem_append_right _ (List.mem_of_getElem? (i := 38) (by decide +kernel))) (by decide +kernel)
theorem tw_39 : (Cond.classLink "OverNight$Town" (9 : Nat) "OverNight$Names") ∈ r_W := r_W_of (List.mem_append_right _ (List.mem_of_getElem? (i := 39) (by decide +kernel))) (by decide +kernel)
theorem tw_40 : (Cond.instantiable "OverNight$Names" (3 : Nat)) ∈ r_W := r_W_of (List.mem_append_right _ (List.mem_of_getElem? (i := 40) (by decide +kernel))) (by decide +kernel)
theorem tw_41 : (Cond.methodLink "OverNight$Town" (11 : Nat) ({ cls := "OverNight$Names", name := "<init>", desc := "(I)V" } : Jvm.MethodName)) ∈ r_W := r_W_of (List.mem_append_right _ (List.mem_of_getElem? (i := 41) (by decide +kernel))) (by decide +kernel)
theorem tw_42 : (Cond.instanceMethod ({ cls := "OverNight$Names", name := "<init>", desc := "(I)V" } : Jvm.MethodName)) ∈ r_W := r_W_of (List.mem_append_right _ (List.mem_of_getElem? (i := 42) (by decide +kernel))) (by decide +kernel)
theorem tw_65 : (Cond.classLink "OverNight$Town" (63 : Nat) "OverNight$Law") ∈ r_W := r_W_of (List.mem_append_right _ (List.mem_of_getElem? (i := 65) (by decide +kernel))) (by decide +kernel)
theorem tw_66 : (Cond.instantiable "OverNight$Law" (6 : Nat)) ∈ r_W := r_W_of (List.mem_append_right _ (List.mem_of_getElem? (i := 66) (by decide +kernel))) (by decide +kernel)
theorem tw_68 : (Cond.instanceMethod ({ cls := "OverNight$Law", name := "<init>", desc := "()V" } : Jvm.MethodName)) ∈ r_W := r_W_of (List.mem_append_right _ (List.mem_of_getElem? (i := 68) (by decide +kernel))) (by decide +kernel)
theorem tw_96 : (Cond.classLink "OverNight$Town" (70 : Nat) "OverNight$Plan") ∈ r_W := r_W_of (List.mem_append_right _ (List.mem_of_getElem? (i := 96) (by decide +kernel))) (by decide +kernel)
theorem tw_97 : (Cond.instantiable "OverNight$Plan" (6 : Nat)) ∈ r_W := r_W_of (List.mem_append_right _ (List.mem_of_getElem? (i := 97) (by decide +kernel))) (by decide +kernel)
theorem tw_99 : (Cond.instanceMethod ({ cls := "OverNight$Plan", name := "<init>", desc := "()V" } : Jvm.MethodName)) ∈ r_W := r_W_of (List.mem_append_right _ (List.mem_of_getElem? (i := 99) (by decide +kernel))) (by decide +kernel)
def tc_X6 : Mem := r_Z
set_option maxRecDepth 6000 in
set_option maxHeartbeats 1000000 in
theorem ci_X6 {l : List (Nat × Nat)} {M : Mem} {Q : Rq} (hl : l.length < 900) (k : Q none (Wo l [(6, 3)]) (r_ov l.length tc_X6 M)) : Ca 1 mt_X6_init 0 0 [.ref l.length] (Wo l [(6, 3)]) (r_ov l.length r_Z M) Q := by
  refine Ca_of rfl (Nat.le_of_ble_eq_true rfl) ?_
  refine Ru_aload_n (pc := 0) dX6_init_0 rfl rfl ?_
  refine Ru_obj (pc := 1) dX6_init_1 tw_402 tw_28 tw_29 (by decide) (Nat.le_of_ble_eq_true rfl) ?_
  refine Ru_vret (pc := 4) dX6_init_4 rfl ⟨by decide, by decide⟩ ?_
  exact k
def tc_X3 (lim : Nat) : Mem := (r_sI (r_sR (r_nw r_Z 1) 0 1 (some 1)) 0 0 (nI (min lim 12)))
set_option maxRecDepth 6000 in
set_option maxHeartbeats 1000000 in
theorem ci_X3 (lim : Nat) (hp : lim < 100) {l : List (Nat × Nat)} {M : Mem} {Q : Rq} (hl : l.length < 800) (k : Q none (Wo l [(3, 3), (101, 12)]) (r_ov l.length (tc_X3 lim) M)) : Ca 2 mt_X3_init 1 12 [.ref l.length, .int (nI lim)] (Wo l [(3, 3)]) (r_ov l.length r_Z M) Q := by
  refine Ca_of rfl (Nat.le_of_ble_eq_true rfl) ?_
  refine Ru_aload_n (pc := 0) dX3_init_0 rfl rfl ?_
  refine Ru_obj (pc := 1) dX3_init_1 tw_44 tw_28 tw_29 (by decide) (Nat.le_of_ble_eq_true rfl) ?_
  refine Ru_aload_n (pc := 4) dX3_init_4 rfl rfl ?_
  refine Ru_bipush (pc := 5) (nI 12) dX3_init_5 rfl ?_
  refine Ro_newa (pc := 7) 1 [(3, 3), (101, 12)] (1, 12) (by omega) rfl rfl dX3_init_7 rfl (Or.inr (Or.inl ⟨rfl, rfl⟩)) tw_64 (by decide) rfl ⟨by decide, by decide⟩ ?_
  refine Ro_putR (i := 0) (j := 1) (pc := 9) (Or.inr ⟨rfl, TX3, rfl⟩) dX3_init_9 fl_X3_9 rfl rfl ?_
  refine Ru_aload_n (pc := 12) dX3_init_12 rfl rfl ?_
  refine Ru_iload_n (pc := 13) dX3_init_13 rfl rfl ?_
  refine Ru_bipush (pc := 14) (nI 12) dX3_init_14 rfl ?_
  refine Ru_csG (d' := 0) (As := [.int (nI lim), .int (nI 12)]) (pc := 16) dX3_init_16 ms_X3_15 (by decide) rfl rfl (Nat.le_of_ble_eq_true rfl) ⟨by decide, by decide⟩ ?_
  refine c_J9_minN (by omega) ?_
  refine Ro_putI (i := 0) (pc := 19) (Or.inr ⟨rfl, TX3, rfl⟩) dX3_init_19 fl_X3_21 rfl ?_
  refine Ru_vret (pc := 22) dX3_init_22 rfl ⟨by decide, by decide⟩ ?_
  exact k
def tc_X2 : Mem := (r_sR (r_nw (r_sR (r_nw (r_sR (r_nw r_Z 1) 0 1 (some 1)) 2) 0 2 (some 2)) 3) 0 3 (some 3))
set_option maxRecDepth 6000 in
set_option maxHeartbeats 1000000 in
theorem ci_X2 {l : List (Nat × Nat)} {M : Mem} {Q : Rq} (hl : l.length < 900) (k : Q none (Wo l [(2, 6), (100, 8), (100, 8), (100, 300)]) (r_ov l.length tc_X2 M)) : Ca 1 mt_X2_init 3 316 [.ref l.length] (Wo l [(2, 6)]) (r_ov l.length r_Z M) Q := by
  refine Ca_of rfl (Nat.le_of_ble_eq_true rfl) ?_
  refine Ru_aload_n (pc := 0) dX2_init_0 rfl rfl ?_
  refine Ru_obj (pc := 1) dX2_init_1 tw_70 tw_28 tw_29 (by decide) (Nat.le_of_ble_eq_true rfl) ?_
  refine Ru_aload_n (pc := 4) dX2_init_4 rfl rfl ?_
  refine Ru_bipush (pc := 5) (nI 8) dX2_init_5 rfl ?_
  refine Ro_newa (pc := 7) 1 [(2, 6), (100, 8)] (1, 8) (by omega) rfl rfl dX2_init_7 rfl (Or.inl ⟨rfl, rfl⟩) tw_95 (by decide) rfl ⟨by decide, by decide⟩ ?_
  refine Ro_putR (i := 0) (j := 1) (pc := 9) (Or.inr ⟨rfl, TX2, rfl⟩) dX2_init_9 fl_X2_9 rfl rfl ?_
  refine Ru_aload_n (pc := 12) dX2_init_12 rfl rfl ?_
  refine Ru_bipush (pc := 13) (nI 8) dX2_init_13 rfl ?_
  refine Ro_newa (pc := 15) 2 [(2, 6), (100, 8), (100, 8)] (2, 16) (by omega) rfl rfl dX2_init_15 rfl (Or.inl ⟨rfl, rfl⟩) tw_95 (by decide) rfl ⟨by decide, by decide⟩ ?_
  refine Ro_putR (i := 0) (j := 2) (pc := 17) (Or.inr ⟨rfl, TX2, rfl⟩) dX2_init_17 fl_X2_15 rfl rfl ?_
  refine Ru_aload_n (pc := 20) dX2_init_20 rfl rfl ?_
  refine Ru_sipush (pc := 21) (nI 300) dX2_init_21 rfl ?_
  refine Ro_newa (pc := 24) 3 [(2, 6), (100, 8), (100, 8), (100, 300)] (3, 316) (by omega) rfl rfl dX2_init_24 rfl (Or.inl ⟨rfl, rfl⟩) tw_95 (by decide) rfl ⟨by decide, by decide⟩ ?_
  refine Ro_putR (i := 0) (j := 3) (pc := 26) (Or.inr ⟨rfl, TX2, rfl⟩) dX2_init_26 fl_X2_18 rfl rfl ?_
  refine Ru_vret (pc := 29) dX2_init_29 rfl ⟨by decide, by decide⟩ ?_
  exact k
def tc_X5 : Mem := (r_sR (r_nw (r_sR (r_nw (r_sR (r_nw (r_sR (r_nw r_Z 1) 0 2 (some 1)) 2) 0 3 (some 2)) 3) 0 4 (some 3)) 4) 0 5 (some 4))
set_option maxRecDepth 6000 in
set_option maxHeartbeats 1000000 in
theorem ci_X5 {l : List (Nat × Nat)} {M : Mem} {Q : Rq} (hl : l.length < 900) (k : Q none (Wo l [(5, 6), (100, 24), (100, 24), (100, 24), (100, 24)]) (r_ov l.length tc_X5 M)) : Ca 1 mt_X5_init 4 96 [.ref l.length] (Wo l [(5, 6)]) (r_ov l.length r_Z M) Q := by
  refine Ca_of rfl (Nat.le_of_ble_eq_true rfl) ?_
  refine Ru_aload_n (pc := 0) dX5_init_0 rfl rfl ?_
  refine Ru_obj (pc := 1) dX5_init_1 tw_101 tw_28 tw_29 (by decide) (Nat.le_of_ble_eq_true rfl) ?_
  refine Ru_aload_n (pc := 4) dX5_init_4 rfl rfl ?_
  refine Ru_bipush (pc := 5) (nI 24) dX5_init_5 rfl ?_
  refine Ro_newa (pc := 7) 1 [(5, 6), (100, 24)] (1, 24) (by omega) rfl rfl dX5_init_7 rfl (Or.inl ⟨rfl, rfl⟩) tw_95 (by decide) rfl ⟨by decide, by decide⟩ ?_
  refine Ro_putR (i := 0) (j := 1) (pc := 9) (Or.inr ⟨rfl, TX5, rfl⟩) dX5_init_9 fl_X5_9 rfl rfl ?_
  refine Ru_aload_n (pc := 12) dX5_init_12 rfl rfl ?_
  refine Ru_bipush (pc := 13) (nI 24) dX5_init_13 rfl ?_
  refine Ro_newa (pc := 15) 2 [(5, 6), (100, 24), (100, 24)] (2, 48) (by omega) rfl rfl dX5_init_15 rfl (Or.inl ⟨rfl, rfl⟩) tw_95 (by decide) rfl ⟨by decide, by decide⟩ ?_
  refine Ro_putR (i := 0) (j := 2) (pc := 17) (Or.inr ⟨rfl, TX5, rfl⟩) dX5_init_17 fl_X5_15 rfl rfl ?_
  refine Ru_aload_n (pc := 20) dX5_init_20 rfl rfl ?_
  refine Ru_bipush (pc := 21) (nI 24) dX5_init_21 rfl ?_
  refine Ro_newa (pc := 23) 3 [(5, 6), (100, 24), (100, 24), (100, 24)] (3, 72) (by omega) rfl rfl dX5_init_23 rfl (Or.inl ⟨rfl, rfl⟩) tw_95 (by decide) rfl ⟨by decide, by decide⟩ ?_
  refine Ro_putR (i := 0) (j := 3) (pc := 25) (Or.inr ⟨rfl, TX5, rfl⟩) dX5_init_25 fl_X5_18 rfl rfl ?_
  refine Ru_aload_n (pc := 28) dX5_init_28 rfl rfl ?_
  refine Ru_bipush (pc := 29) (nI 24) dX5_init_29 rfl ?_
  refine Ro_newa (pc := 31) 4 [(5, 6), (100, 24), (100, 24), (100, 24), (100, 24)] (4, 96) (by omega) rfl rfl dX5_init_31 rfl (Or.inl ⟨rfl, rfl⟩) tw_95 (by decide) rfl ⟨by decide, by decide⟩ ?_
  refine Ro_putR (i := 0) (j := 4) (pc := 33) (Or.inr ⟨rfl, TX5, rfl⟩) dX5_init_33 fl_X5_21 rfl rfl ?_
  refine Ru_vret (pc := 36) dX5_init_36 rfl ⟨by decide, by decide⟩ ?_
  exact k
def tc_X10 : Mem := (r_sR (r_nw (r_sI r_Z 0 1 (-1)) 1) 0 2 (some 1))
set_option maxRecDepth 6000 in
set_option maxHeartbeats 1000000 in
theorem ci_X10 {l : List (Nat × Nat)} {M : Mem} {Q : Rq} (hl : l.length < 900) (k : Q none (Wo l [(10, 3), (101, 60)]) (r_ov l.length tc_X10 M)) : Ca 1 mt_X10_init 1 60 [.ref l.length] (Wo l [(10, 3)]) (r_ov l.length r_Z M) Q := by
  refine Ca_of rfl (Nat.le_of_ble_eq_true rfl) ?_
  refine Ru_aload_n (pc := 0) dX10_init_0 rfl rfl ?_
  refine Ru_obj (pc := 1) dX10_init_1 tw_530 tw_28 tw_29 (by decide) (Nat.le_of_ble_eq_true rfl) ?_
  refine Ru_aload_n (pc := 4) dX10_init_4 rfl rfl ?_
  refine Ru_iconst (pc := 5) (-1) dX10_init_5 rfl ?_
  refine Ro_putI (i := 0) (pc := 6) (Or.inl rfl) dX10_init_6 fl_X10_9 rfl ?_
  refine Ru_aload_n (pc := 9) dX10_init_9 rfl rfl ?_
  refine Ru_bipush (pc := 10) (nI 60) dX10_init_10 rfl ?_
  refine Ro_newa (pc := 12) 1 [(10, 3), (101, 60)] (1, 60) (by omega) rfl rfl dX10_init_12 rfl (Or.inr (Or.inl ⟨rfl, rfl⟩)) tw_64 (by decide) rfl ⟨by decide, by decide⟩ ?_
  refine Ro_putR (i := 0) (j := 1) (pc := 14) (Or.inr ⟨rfl, TX10, rfl⟩) dX10_init_14 fl_X10_15 rfl rfl ?_
  refine Ru_vret (pc := 17) dX10_init_17 rfl ⟨by decide, by decide⟩ ?_
  exact k
def tc_X4 : Mem := (r_sR (r_nw (r_sR (r_nw (r_sR (r_nw (r_sR (r_nw (r_sR (r_nw (r_sR (r_nw r_Z 1) 0 1 (some 1)) 2) 0 3 (some 2)) 3) 0 5 (some 3)) 4) 0 6 (some 4)) 5) 0 7 (some 5)) 6) 0 8 (some 6))
set_option maxRecDepth 6000 in
set_option maxHeartbeats 1000000 in
theorem ci_X4 {l : List (Nat × Nat)} {M : Mem} {Q : Rq} (hl : l.length < 900) (k : Q none (Wo l [(4, 9), (100, 8), (100, 13), (100, 729), (100, 729), (100, 729), (100, 729)]) (r_ov l.length tc_X4 M)) : Ca 1 mt_X4_init 6 2937 [.ref l.length] (Wo l [(4, 9)]) (r_ov l.length r_Z M) Q := by
  refine Ca_of rfl (Nat.le_of_ble_eq_true rfl) ?_
  refine Ru_aload_n (pc := 0) dX4_init_0 rfl rfl ?_
  refine Ru_obj (pc := 1) dX4_init_1 tw_343 tw_28 tw_29 (by decide) (Nat.le_of_ble_eq_true rfl) ?_
  refine Ru_aload_n (pc := 4) dX4_init_4 rfl rfl ?_
  refine Ru_bipush (pc := 5) (nI 8) dX4_init_5 rfl ?_
  refine Ro_newa (pc := 7) 1 [(4, 9), (100, 8)] (1, 8) (by omega) rfl rfl dX4_init_7 rfl (Or.inl ⟨rfl, rfl⟩) tw_95 (by decide) rfl ⟨by decide, by decide⟩ ?_
  refine Ro_putR (i := 0) (j := 1) (pc := 9) (Or.inr ⟨rfl, TX4, rfl⟩) dX4_init_9 fl_X4_9 rfl rfl ?_
  refine Ru_aload_n (pc := 12) dX4_init_12 rfl rfl ?_
  refine Ru_bipush (pc := 13) (nI 13) dX4_init_13 rfl ?_
  refine Ro_newa (pc := 15) 2 [(4, 9), (100, 8), (100, 13)] (2, 21) (by omega) rfl rfl dX4_init_15 rfl (Or.inl ⟨rfl, rfl⟩) tw_95 (by decide) rfl ⟨by decide, by decide⟩ ?_
  refine Ro_putR (i := 0) (j := 2) (pc := 17) (Or.inr ⟨rfl, TX4, rfl⟩) dX4_init_17 fl_X4_15 rfl rfl ?_
  refine Ru_aload_n (pc := 20) dX4_init_20 rfl rfl ?_
  refine Ru_sipush (pc := 21) (nI 729) dX4_init_21 rfl ?_
  refine Ro_newa (pc := 24) 3 [(4, 9), (100, 8), (100, 13), (100, 729)] (3, 750) (by omega) rfl rfl dX4_init_24 rfl (Or.inl ⟨rfl, rfl⟩) tw_95 (by decide) rfl ⟨by decide, by decide⟩ ?_
  refine Ro_putR (i := 0) (j := 3) (pc := 26) (Or.inr ⟨rfl, TX4, rfl⟩) dX4_init_26 fl_X4_18 rfl rfl ?_
  refine Ru_aload_n (pc := 29) dX4_init_29 rfl rfl ?_
  refine Ru_sipush (pc := 30) (nI 729) dX4_init_30 rfl ?_
  refine Ro_newa (pc := 33) 4 [(4, 9), (100, 8), (100, 13), (100, 729), (100, 729)] (4, 1479) (by omega) rfl rfl dX4_init_33 rfl (Or.inl ⟨rfl, rfl⟩) tw_95 (by decide) rfl ⟨by decide, by decide⟩ ?_
  refine Ro_putR (i := 0) (j := 4) (pc := 35) (Or.inr ⟨rfl, TX4, rfl⟩) dX4_init_35 fl_X4_21 rfl rfl ?_
  refine Ru_aload_n (pc := 38) dX4_init_38 rfl rfl ?_
  refine Ru_sipush (pc := 39) (nI 729) dX4_init_39 rfl ?_
  refine Ro_newa (pc := 42) 5 [(4, 9), (100, 8), (100, 13), (100, 729), (100, 729), (100, 729)] (5, 2208) (by omega) rfl rfl dX4_init_42 rfl (Or.inl ⟨rfl, rfl⟩) tw_95 (by decide) rfl ⟨by decide, by decide⟩ ?_
  refine Ro_putR (i := 0) (j := 5) (pc := 44) (Or.inr ⟨rfl, TX4, rfl⟩) dX4_init_44 fl_X4_24 rfl rfl ?_
  refine Ru_aload_n (pc := 47) dX4_init_47 rfl rfl ?_
  refine Ru_sipush (pc := 48) (nI 729) dX4_init_48 rfl ?_
  refine Ro_newa (pc := 51) 6 [(4, 9), (100, 8), (100, 13), (100, 729), (100, 729), (100, 729), (100, 729)] (6, 2937) (by omega) rfl rfl dX4_init_51 rfl (Or.inl ⟨rfl, rfl⟩) tw_95 (by decide) rfl ⟨by decide, by decide⟩ ?_
  refine Ro_putR (i := 0) (j := 6) (pc := 53) (Or.inr ⟨rfl, TX4, rfl⟩) dX4_init_53 fl_X4_27 rfl rfl ?_
  refine Ru_vret (pc := 56) dX4_init_56 rfl ⟨by decide, by decide⟩ ?_
  exact k
def tc_X7 : Mem := (r_sR (r_nw r_Z 1) 0 0 (some 1))
set_option maxRecDepth 6000 in
set_option maxHeartbeats 1000000 in
theorem ci_X7 {l : List (Nat × Nat)} {M : Mem} {Q : Rq} (hl : l.length < 900) (k : Q none (Wo l [(7, 2), (100, 8)]) (r_ov l.length tc_X7 M)) : Ca 1 mt_X7_init 1 8 [.ref l.length] (Wo l [(7, 2)]) (r_ov l.length r_Z M) Q := by
  refine Ca_of rfl (Nat.le_of_ble_eq_true rfl) ?_
  refine Ru_aload_n (pc := 0) dX7_init_0 rfl rfl ?_
  refine Ru_obj (pc := 1) dX7_init_1 tw_382 tw_28 tw_29 (by decide) (Nat.le_of_ble_eq_true rfl) ?_
  refine Ru_aload_n (pc := 4) dX7_init_4 rfl rfl ?_
  refine Ru_bipush (pc := 5) (nI 8) dX7_init_5 rfl ?_
  refine Ro_newa (pc := 7) 1 [(7, 2), (100, 8)] (1, 8) (by omega) rfl rfl dX7_init_7 rfl (Or.inl ⟨rfl, rfl⟩) tw_95 (by decide) rfl ⟨by decide, by decide⟩ ?_
  refine Ro_putR (i := 0) (j := 1) (pc := 9) (Or.inr ⟨rfl, TX7, rfl⟩) dX7_init_9 fl_X7_9 rfl rfl ?_
  refine Ru_vret (pc := 12) dX7_init_12 rfl ⟨by decide, by decide⟩ ?_
  exact k
def tc_X0 : Mem := (r_sR (r_nw (r_sR (r_nw (r_sR (r_nw (r_sR (r_nw (r_sR (r_nw (r_sR (r_ov 6 tc_X6 (r_sR (r_nw (r_sR (r_nw (r_sR (r_nw (r_sR (r_nw (r_sR (r_nw r_Z 1) 0 1 (some 1)) 2) 0 2 (some 2)) 3) 0 3 (some 3)) 4) 0 4 (some 4)) 5) 0 5 (some 5))) 0 6 (some 6)) 7) 0 8 (some 7)) 8) 0 9 (some 8)) 9) 0 12 (some 9)) 10) 0 13 (some 10)) 11) 0 14 (some 11))
set_option maxRecDepth 6000 in
set_option maxHeartbeats 1000000 in
theorem ci_X0 {l : List (Nat × Nat)} {M : Mem} {Q : Rq} (hl : l.length < 800) (k : Q none (Wo l [(0, 15), (100, 6400), (100, 2304), (100, 2304), (100, 9), (100, 9), (6, 3), (100, 24), (100, 24), (100, 4), (100, 256), (103, 256)]) (r_ov l.length tc_X0 M)) : Ca 2 mt_X0_init 11 11593 [.ref l.length] (Wo l [(0, 15)]) (r_ov l.length r_Z M) Q := by
  refine Ca_of rfl (Nat.le_of_ble_eq_true rfl) ?_
  refine Ru_aload_n (pc := 0) dX0_init_0 rfl rfl ?_
  refine Ru_obj (pc := 1) dX0_init_1 tw_396 tw_28 tw_29 (by decide) (Nat.le_of_ble_eq_true rfl) ?_
  refine Ru_aload_n (pc := 4) dX0_init_4 rfl rfl ?_
  refine Ru_sipush (pc := 5) (nI 6400) dX0_init_5 rfl ?_
  refine Ro_newa (pc := 8) 1 [(0, 15), (100, 6400)] (1, 6400) (by omega) rfl rfl dX0_init_8 rfl (Or.inl ⟨rfl, rfl⟩) tw_95 (by decide) rfl ⟨by decide, by decide⟩ ?_
  refine Ro_putR (i := 0) (j := 1) (pc := 10) (Or.inr ⟨rfl, TX0, rfl⟩) dX0_init_10 fl_X0_9 rfl rfl ?_
  refine Ru_aload_n (pc := 13) dX0_init_13 rfl rfl ?_
  refine Ru_sipush (pc := 14) (nI 2304) dX0_init_14 rfl ?_
  refine Ro_newa (pc := 17) 2 [(0, 15), (100, 6400), (100, 2304)] (2, 8704) (by omega) rfl rfl dX0_init_17 rfl (Or.inl ⟨rfl, rfl⟩) tw_95 (by decide) rfl ⟨by decide, by decide⟩ ?_
  refine Ro_putR (i := 0) (j := 2) (pc := 19) (Or.inr ⟨rfl, TX0, rfl⟩) dX0_init_19 fl_X0_15 rfl rfl ?_
  refine Ru_aload_n (pc := 22) dX0_init_22 rfl rfl ?_
  refine Ru_sipush (pc := 23) (nI 2304) dX0_init_23 rfl ?_
  refine Ro_newa (pc := 26) 3 [(0, 15), (100, 6400), (100, 2304), (100, 2304)] (3, 11008) (by omega) rfl rfl dX0_init_26 rfl (Or.inl ⟨rfl, rfl⟩) tw_95 (by decide) rfl ⟨by decide, by decide⟩ ?_
  refine Ro_putR (i := 0) (j := 3) (pc := 28) (Or.inr ⟨rfl, TX0, rfl⟩) dX0_init_28 fl_X0_18 rfl rfl ?_
  refine Ru_aload_n (pc := 31) dX0_init_31 rfl rfl ?_
  refine Ru_bipush (pc := 32) (nI 9) dX0_init_32 rfl ?_
  refine Ro_newa (pc := 34) 4 [(0, 15), (100, 6400), (100, 2304), (100, 2304), (100, 9)] (4, 11017) (by omega) rfl rfl dX0_init_34 rfl (Or.inl ⟨rfl, rfl⟩) tw_95 (by decide) rfl ⟨by decide, by decide⟩ ?_
  refine Ro_putR (i := 0) (j := 4) (pc := 36) (Or.inr ⟨rfl, TX0, rfl⟩) dX0_init_36 fl_X0_21 rfl rfl ?_
  refine Ru_aload_n (pc := 39) dX0_init_39 rfl rfl ?_
  refine Ru_bipush (pc := 40) (nI 9) dX0_init_40 rfl ?_
  refine Ro_newa (pc := 42) 5 [(0, 15), (100, 6400), (100, 2304), (100, 2304), (100, 9), (100, 9)] (5, 11026) (by omega) rfl rfl dX0_init_42 rfl (Or.inl ⟨rfl, rfl⟩) tw_95 (by decide) rfl ⟨by decide, by decide⟩ ?_
  refine Ro_putR (i := 0) (j := 5) (pc := 44) (Or.inr ⟨rfl, TX0, rfl⟩) dX0_init_44 fl_X0_24 rfl rfl ?_
  refine Ru_aload_n (pc := 47) dX0_init_47 rfl rfl ?_
  refine Ro_new (pc := 48) 6 [(0, 15), (100, 6400), (100, 2304), (100, 2304), (100, 9), (100, 9), (6, 3)] (6, 11029) (by omega) rfl rfl dX0_init_48 rc_6 tw_397 tw_398 tw_15 (by decide) rfl ⟨by decide, by decide⟩ ?_
  refine Ru_dup (pc := 51) dX0_init_51 rfl ?_
  refine Ro_initN (mt' := mt_X6_init) (d' := 1) (mc := 0) (ms := 0) (tC := [(6, 3)]) (TC := tc_X6) (As := []) (n := 6) (pc := 52) [(0, 15), (100, 6400), (100, 2304), (100, 2304), (100, 9), (100, 9)] [(0, 15), (100, 6400), (100, 2304), (100, 2304), (100, 9), (100, 9), (6, 3)] (6, 11029) 900 (by omega) rfl rfl rfl dX0_init_52 (List.mem_of_getElem? (i := 8) rfl) mf_X6_init rfl tw_400 rfl (by decide) rfl rfl (Nat.le_of_ble_eq_true rfl) rfl ⟨by decide, by decide⟩ (fun l M Q hl k => ci_X6 hl k) ?_
  refine Ro_putR (i := 0) (j := 6) (pc := 55) (Or.inr ⟨rfl, TX0, rfl⟩) dX0_init_55 fl_X0_30 rfl rfl ?_
  refine Ru_aload_n (pc := 58) dX0_init_58 rfl rfl ?_
  refine Ru_bipush (pc := 59) (nI 24) dX0_init_59 rfl ?_
  refine Ro_newa (pc := 61) 7 [(0, 15), (100, 6400), (100, 2304), (100, 2304), (100, 9), (100, 9), (6, 3), (100, 24)] (7, 11053) (by omega) rfl rfl dX0_init_61 rfl (Or.inl ⟨rfl, rfl⟩) tw_95 (by decide) rfl ⟨by decide, by decide⟩ ?_
  refine Ro_putR (i := 0) (j := 7) (pc := 63) (Or.inr ⟨rfl, TX0, rfl⟩) dX0_init_63 fl_X0_34 rfl rfl ?_
  refine Ru_aload_n (pc := 66) dX0_init_66 rfl rfl ?_
  refine Ru_bipush (pc := 67) (nI 24) dX0_init_67 rfl ?_
  refine Ro_newa (pc := 69) 8 [(0, 15), (100, 6400), (100, 2304), (100, 2304), (100, 9), (100, 9), (6, 3), (100, 24), (100, 24)] (8, 11077) (by omega) rfl rfl dX0_init_69 rfl (Or.inl ⟨rfl, rfl⟩) tw_95 (by decide) rfl ⟨by decide, by decide⟩ ?_
  refine Ro_putR (i := 0) (j := 8) (pc := 71) (Or.inr ⟨rfl, TX0, rfl⟩) dX0_init_71 fl_X0_37 rfl rfl ?_
  refine Ru_aload_n (pc := 74) dX0_init_74 rfl rfl ?_
  refine Ru_iconst (pc := 75) (nI 4) dX0_init_75 rfl ?_
  refine Ro_newa (pc := 76) 9 [(0, 15), (100, 6400), (100, 2304), (100, 2304), (100, 9), (100, 9), (6, 3), (100, 24), (100, 24), (100, 4)] (9, 11081) (by omega) rfl rfl dX0_init_76 rfl (Or.inl ⟨rfl, rfl⟩) tw_95 (by decide) rfl ⟨by decide, by decide⟩ ?_
  refine Ro_putR (i := 0) (j := 9) (pc := 78) (Or.inr ⟨rfl, TX0, rfl⟩) dX0_init_78 fl_X0_40 rfl rfl ?_
  refine Ru_aload_n (pc := 81) dX0_init_81 rfl rfl ?_
  refine Ru_sipush (pc := 82) (nI 256) dX0_init_82 rfl ?_
  refine Ro_newa (pc := 85) 10 [(0, 15), (100, 6400), (100, 2304), (100, 2304), (100, 9), (100, 9), (6, 3), (100, 24), (100, 24), (100, 4), (100, 256)] (10, 11337) (by omega) rfl rfl dX0_init_85 rfl (Or.inl ⟨rfl, rfl⟩) tw_95 (by decide) rfl ⟨by decide, by decide⟩ ?_
  refine Ro_putR (i := 0) (j := 10) (pc := 87) (Or.inr ⟨rfl, TX0, rfl⟩) dX0_init_87 fl_X0_43 rfl rfl ?_
  refine Ru_aload_n (pc := 90) dX0_init_90 rfl rfl ?_
  refine Ru_sipush (pc := 91) (nI 256) dX0_init_91 rfl ?_
  refine Ro_newa (pc := 94) 11 [(0, 15), (100, 6400), (100, 2304), (100, 2304), (100, 9), (100, 9), (6, 3), (100, 24), (100, 24), (100, 4), (100, 256), (103, 256)] (11, 11593) (by omega) rfl rfl dX0_init_94 rfl (Or.inr (Or.inr (Or.inr ⟨rfl, rfl⟩))) tw_470 (by decide) rfl ⟨by decide, by decide⟩ ?_
  refine Ro_putR (i := 0) (j := 11) (pc := 96) (Or.inr ⟨rfl, TX0, rfl⟩) dX0_init_96 fl_X0_46 rfl rfl ?_
  refine Ru_vret (pc := 99) dX0_init_99 rfl ⟨by decide, by decide⟩ ?_
  exact k
def tc_X1 : Mem := (r_sR (r_nw (r_sR (r_nw (r_sR (r_nw (r_sR (r_nw (r_sR (r_ov 3 tc_X6 (r_sR (r_nw (r_sR (r_nw r_Z 1) 0 5 (some 1)) 2) 0 7 (some 2))) 0 8 (some 3)) 4) 0 9 (some 4)) 5) 0 10 (some 5)) 6) 0 11 (some 6)) 7) 0 12 (some 7))
set_option maxRecDepth 6000 in
set_option maxHeartbeats 1000000 in
theorem ci_X1 {l : List (Nat × Nat)} {M : Mem} {Q : Rq} (hl : l.length < 800) (k : Q none (Wo l [(1, 13), (100, 26), (100, 4), (6, 3), (100, 24), (103, 24), (100, 25), (100, 26)]) (r_ov l.length tc_X1 M)) : Ca 2 mt_X1_init 7 132 [.ref l.length] (Wo l [(1, 13)]) (r_ov l.length r_Z M) Q := by
  refine Ca_of rfl (Nat.le_of_ble_eq_true rfl) ?_
  refine Ru_aload_n (pc := 0) dX1_init_0 rfl rfl ?_
  refine Ru_obj (pc := 1) dX1_init_1 tw_476 tw_28 tw_29 (by decide) (Nat.le_of_ble_eq_true rfl) ?_
  refine Ru_aload_n (pc := 4) dX1_init_4 rfl rfl ?_
  refine Ru_bipush (pc := 5) (nI 26) dX1_init_5 rfl ?_
  refine Ro_newa (pc := 7) 1 [(1, 13), (100, 26)] (1, 26) (by omega) rfl rfl dX1_init_7 rfl (Or.inl ⟨rfl, rfl⟩) tw_95 (by decide) rfl ⟨by decide, by decide⟩ ?_
  refine Ro_putR (i := 0) (j := 1) (pc := 9) (Or.inr ⟨rfl, TX1, rfl⟩) dX1_init_9 fl_X1_9 rfl rfl ?_
  refine Ru_aload_n (pc := 12) dX1_init_12 rfl rfl ?_
  refine Ru_iconst (pc := 13) (nI 4) dX1_init_13 rfl ?_
  refine Ro_newa (pc := 14) 2 [(1, 13), (100, 26), (100, 4)] (2, 30) (by omega) rfl rfl dX1_init_14 rfl (Or.inl ⟨rfl, rfl⟩) tw_95 (by decide) rfl ⟨by decide, by decide⟩ ?_
  refine Ro_putR (i := 0) (j := 2) (pc := 16) (Or.inr ⟨rfl, TX1, rfl⟩) dX1_init_16 fl_X1_15 rfl rfl ?_
  refine Ru_aload_n (pc := 19) dX1_init_19 rfl rfl ?_
  refine Ro_new (pc := 20) 3 [(1, 13), (100, 26), (100, 4), (6, 3)] (3, 33) (by omega) rfl rfl dX1_init_20 rc_6 tw_477 tw_398 tw_15 (by decide) rfl ⟨by decide, by decide⟩ ?_
  refine Ru_dup (pc := 23) dX1_init_23 rfl ?_
  refine Ro_initN (mt' := mt_X6_init) (d' := 1) (mc := 0) (ms := 0) (tC := [(6, 3)]) (TC := tc_X6) (As := []) (n := 3) (pc := 24) [(1, 13), (100, 26), (100, 4)] [(1, 13), (100, 26), (100, 4), (6, 3)] (3, 33) 900 (by omega) rfl rfl rfl dX1_init_24 (List.mem_of_getElem? (i := 10) rfl) mf_X6_init rfl tw_400 rfl (by decide) rfl rfl (Nat.le_of_ble_eq_true rfl) rfl ⟨by decide, by decide⟩ (fun l M Q hl k => ci_X6 hl k) ?_
  refine Ro_putR (i := 0) (j := 3) (pc := 27) (Or.inr ⟨rfl, TX1, rfl⟩) dX1_init_27 fl_X1_21 rfl rfl ?_
  refine Ru_aload_n (pc := 30) dX1_init_30 rfl rfl ?_
  refine Ru_bipush (pc := 31) (nI 24) dX1_init_31 rfl ?_
  refine Ro_newa (pc := 33) 4 [(1, 13), (100, 26), (100, 4), (6, 3), (100, 24)] (4, 57) (by omega) rfl rfl dX1_init_33 rfl (Or.inl ⟨rfl, rfl⟩) tw_95 (by decide) rfl ⟨by decide, by decide⟩ ?_
  refine Ro_putR (i := 0) (j := 4) (pc := 35) (Or.inr ⟨rfl, TX1, rfl⟩) dX1_init_35 fl_X1_25 rfl rfl ?_
  refine Ru_aload_n (pc := 38) dX1_init_38 rfl rfl ?_
  refine Ru_bipush (pc := 39) (nI 24) dX1_init_39 rfl ?_
  refine Ro_newa (pc := 41) 5 [(1, 13), (100, 26), (100, 4), (6, 3), (100, 24), (103, 24)] (5, 81) (by omega) rfl rfl dX1_init_41 rfl (Or.inr (Or.inr (Or.inr ⟨rfl, rfl⟩))) tw_470 (by decide) rfl ⟨by decide, by decide⟩ ?_
  refine Ro_putR (i := 0) (j := 5) (pc := 43) (Or.inr ⟨rfl, TX1, rfl⟩) dX1_init_43 fl_X1_28 rfl rfl ?_
  refine Ru_aload_n (pc := 46) dX1_init_46 rfl rfl ?_
  refine Ru_bipush (pc := 47) (nI 25) dX1_init_47 rfl ?_
  refine Ro_newa (pc := 49) 6 [(1, 13), (100, 26), (100, 4), (6, 3), (100, 24), (103, 24), (100, 25)] (6, 106) (by omega) rfl rfl dX1_init_49 rfl (Or.inl ⟨rfl, rfl⟩) tw_95 (by decide) rfl ⟨by decide, by decide⟩ ?_
  refine Ro_putR (i := 0) (j := 6) (pc := 51) (Or.inr ⟨rfl, TX1, rfl⟩) dX1_init_51 fl_X1_32 rfl rfl ?_
  refine Ru_aload_n (pc := 54) dX1_init_54 rfl rfl ?_
  refine Ru_bipush (pc := 55) (nI 26) dX1_init_55 rfl ?_
  refine Ro_newa (pc := 57) 7 [(1, 13), (100, 26), (100, 4), (6, 3), (100, 24), (103, 24), (100, 25), (100, 26)] (7, 132) (by omega) rfl rfl dX1_init_57 rfl (Or.inl ⟨rfl, rfl⟩) tw_95 (by decide) rfl ⟨by decide, by decide⟩ ?_
  refine Ro_putR (i := 0) (j := 7) (pc := 59) (Or.inr ⟨rfl, TX1, rfl⟩) dX1_init_59 fl_X1_35 rfl rfl ?_
  refine Ru_vret (pc := 62) dX1_init_62 rfl ⟨by decide, by decide⟩ ?_
  exact k
def tc_X9 : Mem := (r_sR (r_ov 23 tc_X5 (r_sR (r_ov 19 tc_X2 (r_sR (r_nw (r_sR (r_nw (r_sR (r_nw (r_sR (r_nw (r_sR (r_nw (r_sR (r_nw (r_sR (r_nw (r_sR (r_ov 10 (tc_X3 6) (r_sR (r_nw (r_sR (r_nw (r_sR (r_nw (r_sR (r_nw (r_sR (r_nw (r_sR (r_ov 3 (tc_X3 12) (r_sR (r_ov 1 (tc_X3 8) r_Z) 0 0 (some 1))) 0 3 (some 3)) 5) 0 4 (some 5)) 6) 0 5 (some 6)) 7) 0 6 (some 7)) 8) 0 7 (some 8)) 9) 0 8 (some 9))) 0 9 (some 10)) 12) 0 10 (some 12)) 13) 0 11 (some 13)) 14) 0 13 (some 14)) 15) 0 14 (some 15)) 16) 0 15 (some 16)) 17) 0 17 (some 17)) 18) 0 18 (some 18))) 0 19 (some 19))) 0 20 (some 23))
set_option maxRecDepth 6000 in
set_option maxHeartbeats 1000000 in
theorem ci_X9 {l : List (Nat × Nat)} {M : Mem} {Q : Rq} (hl : l.length < 700) (k : Q none (Wo l [(9, 21), (3, 3), (101, 12), (3, 3), (101, 12), (100, 12), (100, 12), (100, 12), (100, 12), (100, 12), (3, 3), (101, 12), (100, 6), (100, 6), (100, 8), (100, 8), (100, 8), (100, 8), (100, 26), (2, 6), (100, 8), (100, 8), (100, 300), (5, 6), (100, 24), (100, 24), (100, 24), (100, 24)]) (r_ov l.length tc_X9 M)) : Ca 3 mt_X9_init 27 599 [.ref l.length] (Wo l [(9, 21)]) (r_ov l.length r_Z M) Q := by
  refine Ca_of rfl (Nat.le_of_ble_eq_true rfl) ?_
  refine Ru_aload_n (pc := 0) dX9_init_0 rfl rfl ?_
  refine Ru_obj (pc := 1) dX9_init_1 tw_38 tw_28 tw_29 (by decide) (Nat.le_of_ble_eq_true rfl) ?_
  refine Ru_aload_n (pc := 4) dX9_init_4 rfl rfl ?_
  refine Ro_new (pc := 5) 1 [(9, 21), (3, 3)] (1, 3) (by omega) rfl rfl dX9_init_5 rc_3 tw_39 tw_40 tw_3 (by decide) rfl ⟨by decide, by decide⟩ ?_
  refine Ru_dup (pc := 8) dX9_init_8 rfl ?_
  refine Ru_bipush (pc := 9) (nI 8) dX9_init_9 rfl ?_
  refine Ro_init (mt' := mt_X3_init) (d' := 2) (mc := 1) (ms := 12) (tC := [(3, 3), (101, 12)]) (TC := (tc_X3 8)) (As := [.int (nI 8)]) (n := 1) (pc := 11) [(9, 21)] [(9, 21), (3, 3), (101, 12)] (2, 15) 800 (by omega) rfl rfl rfl dX9_init_11 ⟨tw_41, mf_X3_init⟩ rfl tw_42 rfl (by decide) rfl rfl (Nat.le_of_ble_eq_true rfl) rfl ⟨by decide, by decide⟩ (fun l M Q hl k => ci_X3 8 (by decide) hl k) ?_
  refine Ro_putR (i := 0) (j := 1) (pc := 14) (Or.inr ⟨rfl, TX9, rfl⟩) dX9_init_14 fl_X9_14 rfl rfl ?_
  refine Ru_aload_n (pc := 17) dX9_init_17 rfl rfl ?_
  refine Ro_new (pc := 18) 3 [(9, 21), (3, 3), (101, 12), (3, 3)] (3, 18) (by omega) rfl rfl dX9_init_18 rc_3 tw_39 tw_40 tw_3 (by decide) rfl ⟨by decide, by decide⟩ ?_
  refine Ru_dup (pc := 21) dX9_init_21 rfl ?_
  refine Ru_bipush (pc := 22) (nI 12) dX9_init_22 rfl ?_
  refine Ro_init (mt' := mt_X3_init) (d' := 2) (mc := 1) (ms := 12) (tC := [(3, 3), (101, 12)]) (TC := (tc_X3 12)) (As := [.int (nI 12)]) (n := 3) (pc := 24) [(9, 21), (3, 3), (101, 12)] [(9, 21), (3, 3), (101, 12), (3, 3), (101, 12)] (4, 30) 800 (by omega) rfl rfl rfl dX9_init_24 ⟨tw_41, mf_X3_init⟩ rfl tw_42 rfl (by decide) rfl rfl (Nat.le_of_ble_eq_true rfl) rfl ⟨by decide, by decide⟩ (fun l M Q hl k => ci_X3 12 (by decide) hl k) ?_
  refine Ro_putR (i := 0) (j := 3) (pc := 27) (Or.inr ⟨rfl, TX9, rfl⟩) dX9_init_27 fl_X9_20 rfl rfl ?_
  refine Ru_aload_n (pc := 30) dX9_init_30 rfl rfl ?_
  refine Ru_bipush (pc := 31) (nI 12) dX9_init_31 rfl ?_
  refine Ro_newa (pc := 33) 5 [(9, 21), (3, 3), (101, 12), (3, 3), (101, 12), (100, 12)] (5, 42) (by omega) rfl rfl dX9_init_33 rfl (Or.inl ⟨rfl, rfl⟩) tw_95 (by decide) rfl ⟨by decide, by decide⟩ ?_
  refine Ro_putR (i := 0) (j := 5) (pc := 35) (Or.inr ⟨rfl, TX9, rfl⟩) dX9_init_35 fl_X9_23 rfl rfl ?_
  refine Ru_aload_n (pc := 38) dX9_init_38 rfl rfl ?_
  refine Ru_bipush (pc := 39) (nI 12) dX9_init_39 rfl ?_
  refine Ro_newa (pc := 41) 6 [(9, 21), (3, 3), (101, 12), (3, 3), (101, 12), (100, 12), (100, 12)] (6, 54) (by omega) rfl rfl dX9_init_41 rfl (Or.inl ⟨rfl, rfl⟩) tw_95 (by decide) rfl ⟨by decide, by decide⟩ ?_
  refine Ro_putR (i := 0) (j := 6) (pc := 43) (Or.inr ⟨rfl, TX9, rfl⟩) dX9_init_43 fl_X9_27 rfl rfl ?_
  refine Ru_aload_n (pc := 46) dX9_init_46 rfl rfl ?_
  refine Ru_bipush (pc := 47) (nI 12) dX9_init_47 rfl ?_
  refine Ro_newa (pc := 49) 7 [(9, 21), (3, 3), (101, 12), (3, 3), (101, 12), (100, 12), (100, 12), (100, 12)] (7, 66) (by omega) rfl rfl dX9_init_49 rfl (Or.inl ⟨rfl, rfl⟩) tw_95 (by decide) rfl ⟨by decide, by decide⟩ ?_
  refine Ro_putR (i := 0) (j := 7) (pc := 51) (Or.inr ⟨rfl, TX9, rfl⟩) dX9_init_51 fl_X9_30 rfl rfl ?_
  refine Ru_aload_n (pc := 54) dX9_init_54 rfl rfl ?_
  refine Ru_bipush (pc := 55) (nI 12) dX9_init_55 rfl ?_
  refine Ro_newa (pc := 57) 8 [(9, 21), (3, 3), (101, 12), (3, 3), (101, 12), (100, 12), (100, 12), (100, 12), (100, 12)] (8, 78) (by omega) rfl rfl dX9_init_57 rfl (Or.inl ⟨rfl, rfl⟩) tw_95 (by decide) rfl ⟨by decide, by decide⟩ ?_
  refine Ro_putR (i := 0) (j := 8) (pc := 59) (Or.inr ⟨rfl, TX9, rfl⟩) dX9_init_59 fl_X9_33 rfl rfl ?_
  refine Ru_aload_n (pc := 62) dX9_init_62 rfl rfl ?_
  refine Ru_bipush (pc := 63) (nI 12) dX9_init_63 rfl ?_
  refine Ro_newa (pc := 65) 9 [(9, 21), (3, 3), (101, 12), (3, 3), (101, 12), (100, 12), (100, 12), (100, 12), (100, 12), (100, 12)] (9, 90) (by omega) rfl rfl dX9_init_65 rfl (Or.inl ⟨rfl, rfl⟩) tw_95 (by decide) rfl ⟨by decide, by decide⟩ ?_
  refine Ro_putR (i := 0) (j := 9) (pc := 67) (Or.inr ⟨rfl, TX9, rfl⟩) dX9_init_67 fl_X9_36 rfl rfl ?_
  refine Ru_aload_n (pc := 70) dX9_init_70 rfl rfl ?_
  refine Ro_new (pc := 71) 10 [(9, 21), (3, 3), (101, 12), (3, 3), (101, 12), (100, 12), (100, 12), (100, 12), (100, 12), (100, 12), (3, 3)] (10, 93) (by omega) rfl rfl dX9_init_71 rc_3 tw_39 tw_40 tw_3 (by decide) rfl ⟨by decide, by decide⟩ ?_
  refine Ru_dup (pc := 74) dX9_init_74 rfl ?_
  refine Ru_bipush (pc := 75) (nI 6) dX9_init_75 rfl ?_
  refine Ro_init (mt' := mt_X3_init) (d' := 2) (mc := 1) (ms := 12) (tC := [(3, 3), (101, 12)]) (TC := (tc_X3 6)) (As := [.int (nI 6)]) (n := 10) (pc := 77) [(9, 21), (3, 3), (101, 12), (3, 3), (101, 12), (100, 12), (100, 12), (100, 12), (100, 12), (100, 12)] [(9, 21), (3, 3), (101, 12), (3, 3), (101, 12), (100, 12), (100, 12), (100, 12), (100, 12), (100, 12), (3, 3), (101, 12)] (11, 105) 800 (by omega) rfl rfl rfl dX9_init_77 ⟨tw_41, mf_X3_init⟩ rfl tw_42 rfl (by decide) rfl rfl (Nat.le_of_ble_eq_true rfl) rfl ⟨by decide, by decide⟩ (fun l M Q hl k => ci_X3 6 (by decide) hl k) ?_
  refine Ro_putR (i := 0) (j := 10) (pc := 80) (Or.inr ⟨rfl, TX9, rfl⟩) dX9_init_80 fl_X9_39 rfl rfl ?_
  refine Ru_aload_n (pc := 83) dX9_init_83 rfl rfl ?_
  refine Ru_bipush (pc := 84) (nI 6) dX9_init_84 rfl ?_
  refine Ro_newa (pc := 86) 12 [(9, 21), (3, 3), (101, 12), (3, 3), (101, 12), (100, 12), (100, 12), (100, 12), (100, 12), (100, 12), (3, 3), (101, 12), (100, 6)] (12, 111) (by omega) rfl rfl dX9_init_86 rfl (Or.inl ⟨rfl, rfl⟩) tw_95 (by decide) rfl ⟨by decide, by decide⟩ ?_
  refine Ro_putR (i := 0) (j := 12) (pc := 88) (Or.inr ⟨rfl, TX9, rfl⟩) dX9_init_88 fl_X9_42 rfl rfl ?_
  refine Ru_aload_n (pc := 91) dX9_init_91 rfl rfl ?_
  refine Ru_bipush (pc := 92) (nI 6) dX9_init_92 rfl ?_
  refine Ro_newa (pc := 94) 13 [(9, 21), (3, 3), (101, 12), (3, 3), (101, 12), (100, 12), (100, 12), (100, 12), (100, 12), (100, 12), (3, 3), (101, 12), (100, 6), (100, 6)] (13, 117) (by omega) rfl rfl dX9_init_94 rfl (Or.inl ⟨rfl, rfl⟩) tw_95 (by decide) rfl ⟨by decide, by decide⟩ ?_
  refine Ro_putR (i := 0) (j := 13) (pc := 96) (Or.inr ⟨rfl, TX9, rfl⟩) dX9_init_96 fl_X9_45 rfl rfl ?_
  refine Ru_aload_n (pc := 99) dX9_init_99 rfl rfl ?_
  refine Ru_bipush (pc := 100) (nI 8) dX9_init_100 rfl ?_
  refine Ro_newa (pc := 102) 14 [(9, 21), (3, 3), (101, 12), (3, 3), (101, 12), (100, 12), (100, 12), (100, 12), (100, 12), (100, 12), (3, 3), (101, 12), (100, 6), (100, 6), (100, 8)] (14, 125) (by omega) rfl rfl dX9_init_102 rfl (Or.inl ⟨rfl, rfl⟩) tw_95 (by decide) rfl ⟨by decide, by decide⟩ ?_
  refine Ro_putR (i := 0) (j := 14) (pc := 104) (Or.inr ⟨rfl, TX9, rfl⟩) dX9_init_104 fl_X9_48 rfl rfl ?_
  refine Ru_aload_n (pc := 107) dX9_init_107 rfl rfl ?_
  refine Ru_bipush (pc := 108) (nI 8) dX9_init_108 rfl ?_
  refine Ro_newa (pc := 110) 15 [(9, 21), (3, 3), (101, 12), (3, 3), (101, 12), (100, 12), (100, 12), (100, 12), (100, 12), (100, 12), (3, 3), (101, 12), (100, 6), (100, 6), (100, 8), (100, 8)] (15, 133) (by omega) rfl rfl dX9_init_110 rfl (Or.inl ⟨rfl, rfl⟩) tw_95 (by decide) rfl ⟨by decide, by decide⟩ ?_
  refine Ro_putR (i := 0) (j := 15) (pc := 112) (Or.inr ⟨rfl, TX9, rfl⟩) dX9_init_112 fl_X9_51 rfl rfl ?_
  refine Ru_aload_n (pc := 115) dX9_init_115 rfl rfl ?_
  refine Ru_bipush (pc := 116) (nI 8) dX9_init_116 rfl ?_
  refine Ro_newa (pc := 118) 16 [(9, 21), (3, 3), (101, 12), (3, 3), (101, 12), (100, 12), (100, 12), (100, 12), (100, 12), (100, 12), (3, 3), (101, 12), (100, 6), (100, 6), (100, 8), (100, 8), (100, 8)] (16, 141) (by omega) rfl rfl dX9_init_118 rfl (Or.inl ⟨rfl, rfl⟩) tw_95 (by decide) rfl ⟨by decide, by decide⟩ ?_
  refine Ro_putR (i := 0) (j := 16) (pc := 120) (Or.inr ⟨rfl, TX9, rfl⟩) dX9_init_120 fl_X9_54 rfl rfl ?_
  refine Ru_aload_n (pc := 123) dX9_init_123 rfl rfl ?_
  refine Ru_bipush (pc := 124) (nI 8) dX9_init_124 rfl ?_
  refine Ro_newa (pc := 126) 17 [(9, 21), (3, 3), (101, 12), (3, 3), (101, 12), (100, 12), (100, 12), (100, 12), (100, 12), (100, 12), (3, 3), (101, 12), (100, 6), (100, 6), (100, 8), (100, 8), (100, 8), (100, 8)] (17, 149) (by omega) rfl rfl dX9_init_126 rfl (Or.inl ⟨rfl, rfl⟩) tw_95 (by decide) rfl ⟨by decide, by decide⟩ ?_
  refine Ro_putR (i := 0) (j := 17) (pc := 128) (Or.inr ⟨rfl, TX9, rfl⟩) dX9_init_128 fl_X9_57 rfl rfl ?_
  refine Ru_aload_n (pc := 131) dX9_init_131 rfl rfl ?_
  refine Ru_bipush (pc := 132) (nI 26) dX9_init_132 rfl ?_
  refine Ro_newa (pc := 134) 18 [(9, 21), (3, 3), (101, 12), (3, 3), (101, 12), (100, 12), (100, 12), (100, 12), (100, 12), (100, 12), (3, 3), (101, 12), (100, 6), (100, 6), (100, 8), (100, 8), (100, 8), (100, 8), (100, 26)] (18, 175) (by omega) rfl rfl dX9_init_134 rfl (Or.inl ⟨rfl, rfl⟩) tw_95 (by decide) rfl ⟨by decide, by decide⟩ ?_
  refine Ro_putR (i := 0) (j := 18) (pc := 136) (Or.inr ⟨rfl, TX9, rfl⟩) dX9_init_136 fl_X9_60 rfl rfl ?_
  refine Ru_aload_n (pc := 139) dX9_init_139 rfl rfl ?_
  refine Ro_new (pc := 140) 19 [(9, 21), (3, 3), (101, 12), (3, 3), (101, 12), (100, 12), (100, 12), (100, 12), (100, 12), (100, 12), (3, 3), (101, 12), (100, 6), (100, 6), (100, 8), (100, 8), (100, 8), (100, 8), (100, 26), (2, 6)] (19, 181) (by omega) rfl rfl dX9_init_140 rc_2 tw_65 tw_66 tw_5 (by decide) rfl ⟨by decide, by decide⟩ ?_
  refine Ru_dup (pc := 143) dX9_init_143 rfl ?_
  refine Ro_initN (mt' := mt_X2_init) (d' := 1) (mc := 3) (ms := 316) (tC := [(2, 6), (100, 8), (100, 8), (100, 300)]) (TC := tc_X2) (As := []) (n := 19) (pc := 144) [(9, 21), (3, 3), (101, 12), (3, 3), (101, 12), (100, 12), (100, 12), (100, 12), (100, 12), (100, 12), (3, 3), (101, 12), (100, 6), (100, 6), (100, 8), (100, 8), (100, 8), (100, 8), (100, 26)] [(9, 21), (3, 3), (101, 12), (3, 3), (101, 12), (100, 12), (100, 12), (100, 12), (100, 12), (100, 12), (3, 3), (101, 12), (100, 6), (100, 6), (100, 8), (100, 8), (100, 8), (100, 8), (100, 26), (2, 6), (100, 8), (100, 8), (100, 300)] (22, 497) 900 (by omega) rfl rfl rfl dX9_init_144 (List.mem_of_getElem? (i := 1) rfl) mf_X2_init rfl tw_68 rfl (by decide) rfl rfl (Nat.le_of_ble_eq_true rfl) rfl ⟨by decide, by decide⟩ (fun l M Q hl k => ci_X2 hl k) ?_
  refine Ro_putR (i := 0) (j := 19) (pc := 147) (Or.inl rfl) dX9_init_147 fl_X9_66 rfl rfl ?_
  refine Ru_aload_n (pc := 150) dX9_init_150 rfl rfl ?_
  refine Ro_new (pc := 151) 23 [(9, 21), (3, 3), (101, 12), (3, 3), (101, 12), (100, 12), (100, 12), (100, 12), (100, 12), (100, 12), (3, 3), (101, 12), (100, 6), (100, 6), (100, 8), (100, 8), (100, 8), (100, 8), (100, 26), (2, 6), (100, 8), (100, 8), (100, 300), (5, 6)] (23, 503) (by omega) rfl rfl dX9_init_151 rc_5 tw_96 tw_97 tw_6 (by decide) rfl ⟨by decide, by decide⟩ ?_
  refine Ru_dup (pc := 154) dX9_init_154 rfl ?_
  refine Ro_initN (mt' := mt_X5_init) (d' := 1) (mc := 4) (ms := 96) (tC := [(5, 6), (100, 24), (100, 24), (100, 24), (100, 24)]) (TC := tc_X5) (As := []) (n := 23) (pc := 155) [(9, 21), (3, 3), (101, 12), (3, 3), (101, 12), (100, 12), (100, 12), (100, 12), (100, 12), (100, 12), (3, 3), (101, 12), (100, 6), (100, 6), (100, 8), (100, 8), (100, 8), (100, 8), (100, 26), (2, 6), (100, 8), (100, 8), (100, 300)] [(9, 21), (3, 3), (101, 12), (3, 3), (101, 12), (100, 12), (100, 12), (100, 12), (100, 12), (100, 12), (3, 3), (101, 12), (100, 6), (100, 6), (100, 8), (100, 8), (100, 8), (100, 8), (100, 26), (2, 6), (100, 8), (100, 8), (100, 300), (5, 6), (100, 24), (100, 24), (100, 24), (100, 24)] (27, 599) 900 (by omega) rfl rfl rfl dX9_init_155 (List.mem_of_getElem? (i := 2) rfl) mf_X5_init rfl tw_99 rfl (by decide) rfl rfl (Nat.le_of_ble_eq_true rfl) rfl ⟨by decide, by decide⟩ (fun l M Q hl k => ci_X5 hl k) ?_
  refine Ro_putR (i := 0) (j := 23) (pc := 158) (Or.inl rfl) dX9_init_158 fl_X9_73 rfl rfl ?_
  refine Ru_vret (pc := 161) dX9_init_161 rfl ⟨by decide, by decide⟩ ?_
  exact k
