-- MARKS: the developers' copy of a town
def P9 (u lu pu o : Nat) : Prop := (u ≤ o ∧ o ≤ u + 18) ∨ (lu ≤ o ∧ o ≤ lu + 3) ∨ (pu ≤ o ∧ o ≤ pu + 4)
theorem P9_t {u t lu pu : Nat} (hu : isTown u) (ht : isTown t) (hl : isLaw lu) (hp : isPlan pu) (hne : ¬ u = t) : ∀ j, j ≤ 18 → ¬ P9 u lu pu (t + j) := fun j hj => by
  have h1 : ¬ (u ≤ t + j ∧ t + j ≤ u + 18) := by
    unfold isTown at hu ht
    omega
  have h2 : ¬ (lu ≤ t + j ∧ t + j ≤ lu + 3) := by
    unfold isTown at ht
    unfold isLaw at hl
    omega
  have h3 : ¬ (pu ≤ t + j ∧ t + j ≤ pu + 4) := by
    unfold isTown at ht
    unfold isPlan at hp
    omega
  exact fun z => z.elim h1 (fun y => y.elim h2 h3)
theorem P9_l {u l lu pu : Nat} (hu : isTown u) (hl : isLaw l) (hlu : isLaw lu) (hp : isPlan pu) (hne : ¬ lu = l) : ∀ j, j ≤ 3 → ¬ P9 u lu pu (l + j) := fun j hj => by
  have h1 : ¬ (u ≤ l + j ∧ l + j ≤ u + 18) := by
    unfold isTown at hu
    unfold isLaw at hl
    omega
  have h2 : ¬ (lu ≤ l + j ∧ l + j ≤ lu + 3) := by
    unfold isLaw at hl hlu
    omega
  have h3 : ¬ (pu ≤ l + j ∧ l + j ≤ pu + 4) := by
    unfold isLaw at hl
    unfold isPlan at hp
    omega
  exact fun z => z.elim h1 (fun y => y.elim h2 h3)
theorem P9_p {u p lu pu : Nat} (hu : isTown u) (hp : isPlan p) (hlu : isLaw lu) (hpu : isPlan pu) (hne : ¬ pu = p) : ∀ j, j ≤ 4 → ¬ P9 u lu pu (p + j) := fun j hj => by
  have h1 : ¬ (u ≤ p + j ∧ p + j ≤ u + 18) := by
    unfold isTown at hu
    unfold isPlan at hp
    omega
  have h2 : ¬ (lu ≤ p + j ∧ p + j ≤ lu + 3) := by
    unfold isLaw at hlu
    unfold isPlan at hp
    omega
  have h3 : ¬ (pu ≤ p + j ∧ p + j ≤ pu + 4) := by
    unfold isPlan at hp hpu
    omega
  exact fun z => z.elim h1 (fun y => y.elim h2 h3)
theorem qul9 {u lu : Nat} (hu : isTown u) (hl : isLaw lu) : ∀ j q, j ≤ 18 → ¬ lQ lu (u + j) q := lQ_u hu hl
theorem qup9 {u pu : Nat} (hu : isTown u) (hp : isPlan pu) : ∀ j q, j ≤ 18 → ¬ qW9 pu (u + j) q := fun j q hj => by
  unfold qW9
  unfold isTown at hu
  unfold isPlan at hp
  omega
theorem qlp9 {lu pu : Nat} (hl : isLaw lu) (hp : isPlan pu) : ∀ j q, j ≤ 3 → ¬ qW9 pu (lu + j) q := fun j q hj => by
  unfold qW9
  unfold isLaw at hl
  unfold isPlan at hp
  omega
def X_cq (u t : Nat) (M M' : Mem) : Prop := (M'.1 (u + 1) 2 = M.1 (t + 1) 2 ∧ M'.1 (u + 3) 2 = M.1 (t + 3) 2 ∧ M'.1 (u + 10) 2 = M.1 (t + 10) 2 ∧ M'.1 u 12 = M.1 t 12) ∧ (M'.1 u 1 = M.1 t 1 ∧ M'.1 u 2 = M.1 t 2 ∧ M'.1 u 16 = M.1 t 16) ∧ ((∀ q, q < 12 → M'.1 (u + 5) q = M.1 (t + 5) q) ∧ (∀ q, q < 12 → M'.1 (u + 6) q = M.1 (t + 6) q) ∧ (∀ q, q < 12 → M'.1 (u + 7) q = M.1 (t + 7) q) ∧ (∀ q, q < 12 → M'.1 (u + 8) q = M.1 (t + 8) q) ∧ (∀ q, q < 12 → M'.1 (u + 9) q = M.1 (t + 9) q)) ∧ ((∀ q, q < 6 → M'.1 (u + 12) q = M.1 (t + 12) q) ∧ (∀ q, q < 6 → M'.1 (u + 13) q = M.1 (t + 13) q)) ∧ ((∀ q, q < 8 → M'.1 (u + 14) q = M.1 (t + 14) q) ∧ (∀ q, q < 8 → M'.1 (u + 15) q = M.1 (t + 15) q) ∧ (∀ q, q < 8 → M'.1 (u + 16) q = M.1 (t + 16) q) ∧ (∀ q, q < 8 → M'.1 (u + 17) q = M.1 (t + 17) q) ∧ (∀ q, q < 26 → M'.1 (u + 18) q = M.1 (t + 18) q)) ∧ ((∀ q, q < 12 → M'.2.1 (u + 1 + 1) q = M.2.1 (t + 1 + 1) q) ∧ (∀ q, q < 12 → M'.2.1 (u + 3 + 1) q = M.2.1 (t + 3 + 1) q) ∧ (∀ q, q < 12 → M'.2.1 (u + 10 + 1) q = M.2.1 (t + 10 + 1) q)) ∧ (M'.1 (u + 1) 0 = M.1 (u + 1) 0 ∧ M'.1 (u + 3) 0 = M.1 (u + 3) 0 ∧ M'.1 (u + 10) 0 = M.1 (u + 10) 0)
def X_cl (a b : Nat) (M M' : Mem) : Prop := M'.1 a 0 = M.1 b 0 ∧ (∀ q, q < 8 → M'.1 (a + 1) q = M.1 (b + 1) q) ∧ (∀ q, q < 8 → M'.1 (a + 2) q = M.1 (b + 2) q) ∧ (∀ q, q < 300 → M'.1 (a + 3) q = M.1 (b + 3) q)
def X_cp (a b : Nat) (M M' : Mem) : Prop := M'.1 a 0 = M.1 b 0 ∧ M'.1 a 1 = M.1 b 1 ∧ (∀ q, q < 24 → M'.1 (a + 1) q = M.1 (b + 1) q) ∧ (∀ q, q < 24 → M'.1 (a + 2) q = M.1 (b + 2) q) ∧ (∀ q, q < 24 → M'.1 (a + 3) q = M.1 (b + 3) q) ∧ (∀ q, q < 24 → M'.1 (a + 4) q = M.1 (b + 4) q)

theorem c_X9_copy {Q : Rq} {M : Mem} {u t lu lt pu pt : Nat} (hu : isTown u) (ht : isTown t) (hlu : isLaw lu) (hlt : isLaw lt) (hpu : isPlan pu) (hpt : isPlan pt) (hnt : ¬ u = t) (hnl : ¬ lu = lt) (hnp : ¬ pu = pt) (hul : M.2.2 u 19 = some lu) (htl : M.2.2 t 19 = some lt) (hup : M.2.2 u 20 = some pu) (htp : M.2.2 t 20 = some pt) (h01 : M.1 pt 0 = 0 ∨ M.1 pt 0 = 1) (k : ∀ M', (∀ o q, ¬ P9 u lu pu o → r_eq3 M M' o q) → (∀ o q, M'.2.2 o q = M.2.2 o q) → X_cq u t M M' → X_cl lu lt M M' → X_cp pu pt M M' → Q none GX M') : Ca 3 mt_X9_copy 0 0 [.ref u, .ref t] GX M Q := by
  refine Ca_of rfl (Nat.le_of_ble_eq_true rfl) ?_
  have rf : ∀ o q, M.2.2 o q = M.2.2 o q := fun _ _ => rfl
  have cf : ∀ o q, ¬ P9 u lu pu o → r_eq3 M M o q := fun _ _ _ => ⟨rfl, rfl, rfl⟩
  have hsT := P9_t hu ht hlu hpu hnt
  have hsL := P9_l hu hlt hlu hpu hnl
  have hsP := P9_p hu hpt hlu hpu hnp
  have htu : ∀ n j, j ≤ 1 → ¬ (t + n + j = u + n ∨ t + n + j = u + n + 1) ∨ 17 < n := fun n j hj => by
    by_cases e : n ≤ 17
    · have h9 := hsT (n + j) (by omega)
      unfold P9 at h9
      omega
    · omega
  refine Ru_aload_n (pc := 0) dX9_copy_0 rfl rfl ?_
  refine Ru_getR (pc := 1) (u + 1) dX9_copy_1 fl_X9_14 (shTown_0 hu) rfl (rfX_of (o := u) (j := 1) (shTown_0 hu) rfl) ?_
  refine Ru_aload_n (pc := 4) dX9_copy_4 rfl rfl ?_
  refine Ru_getR (pc := 5) (t + 1) dX9_copy_5 fl_X9_14 (shTown_0 ht) rfl (rfX_of (o := t) (j := 1) (shTown_0 ht) rfl) ?_
  refine Ru_cv1 (pc := 8) dX9_copy_8 mv_X9_168 (shNames_0 (isNames_t hu).1) (by decide) (Nat.le_of_ble_eq_true rfl) (c_X3_copy (isNames_t hu).1 (isNames_t ht).1 (fun j hj q => by unfold nP; have := htu 1 j hj; omega) (fun M2 st2 rf2' vl2 vw2 => ?_)) 
  have rf2 : ∀ o q, M2.2.2 o q = M.2.2 o q := fun o q => (rf2' o q).trans (rf o q)
  have cf2 : ∀ o q, ¬ P9 u lu pu o → r_eq3 M M2 o q := fun o q h => e3t (cf o q h) (st2 o q (by unfold P9 at h; unfold nP; omega))
  refine Ru_aload_n (pc := 11) dX9_copy_11 rfl rfl ?_
  refine Ru_aload_n (pc := 12) dX9_copy_12 rfl rfl ?_
  refine Ru_getI (pc := 13) dX9_copy_13 fl_X9_97 (shTown_0 ht) rfl ?_
  refine Ru_putI (pc := 16) rfl dX9_copy_16 fl_X9_97 (shTown_0 hu) ?_
  generalize en3 : r_sI M2 u 1 (M2.1 t 1) = M3
  have st3 : ∀ o q, ¬ (o = u ∧ q = 1) → r_eq3 M2 M3 o q := fun o q h => by
    rw [← en3]
    exact ⟨r_sI_n h, rfl, rfl⟩
  have vl3 : M3.1 u 1 = (M2.1 t 1) := by
    rw [← en3]
    exact r_sI_s
  have rf3 : ∀ o q, M3.2.2 o q = M.2.2 o q := fun o q => by
    rw [← en3]
    exact rf2 o q
  have cf3 : ∀ o q, ¬ P9 u lu pu o → r_eq3 M M3 o q := fun o q h => e3t (cf2 o q h) (st3 o q (by unfold P9 at h; omega))
  refine Ru_aload_n (pc := 19) dX9_copy_19 rfl rfl ?_
  refine Ru_aload_n (pc := 20) dX9_copy_20 rfl rfl ?_
  refine Ru_getI (pc := 21) dX9_copy_21 fl_X9_100 (shTown_0 ht) rfl ?_
  refine Ru_putI (pc := 24) rfl dX9_copy_24 fl_X9_100 (shTown_0 hu) ?_
  generalize en4 : r_sI M3 u 2 (M3.1 t 2) = M4
  have st4 : ∀ o q, ¬ (o = u ∧ q = 2) → r_eq3 M3 M4 o q := fun o q h => by
    rw [← en4]
    exact ⟨r_sI_n h, rfl, rfl⟩
  have vl4 : M4.1 u 2 = (M3.1 t 2) := by
    rw [← en4]
    exact r_sI_s
  have rf4 : ∀ o q, M4.2.2 o q = M.2.2 o q := fun o q => by
    rw [← en4]
    exact rf3 o q
  have cf4 : ∀ o q, ¬ P9 u lu pu o → r_eq3 M M4 o q := fun o q h => e3t (cf3 o q h) (st4 o q (by unfold P9 at h; omega))
  refine Ru_aload_n (pc := 27) dX9_copy_27 rfl rfl ?_
  refine Ru_getR (pc := 28) (u + 3) dX9_copy_28 fl_X9_20 (shTown_0 hu) rfl (rfX_of (o := u) (j := 3) (shTown_0 hu) rfl) ?_
  refine Ru_aload_n (pc := 31) dX9_copy_31 rfl rfl ?_
  refine Ru_getR (pc := 32) (t + 3) dX9_copy_32 fl_X9_20 (shTown_0 ht) rfl (rfX_of (o := t) (j := 3) (shTown_0 ht) rfl) ?_
  refine Ru_cv1 (pc := 35) dX9_copy_35 mv_X9_168 (shNames_0 (isNames_t hu).2.1) (by decide) (Nat.le_of_ble_eq_true rfl) (c_X3_copy (isNames_t hu).2.1 (isNames_t ht).2.1 (fun j hj q => by unfold nP; have := htu 3 j hj; omega) (fun M5 st5 rf5' vl5 vw5 => ?_)) 
  have rf5 : ∀ o q, M5.2.2 o q = M.2.2 o q := fun o q => (rf5' o q).trans (rf4 o q)
  have cf5 : ∀ o q, ¬ P9 u lu pu o → r_eq3 M M5 o q := fun o q h => e3t (cf4 o q h) (st5 o q (by unfold P9 at h; unfold nP; omega))
  refine Ru_aload_n (pc := 38) dX9_copy_38 rfl rfl ?_
  refine Ru_getR (pc := 39) (t + 5) dX9_copy_39 fl_X9_23 (shTown_0 ht) rfl (rfX_of (o := t) (j := 5) (shTown_0 ht) rfl) ?_
  refine Ru_iconst (pc := 42) (nI 0) dX9_copy_42 rfl ?_
  refine Ru_aload_n (pc := 43) dX9_copy_43 rfl rfl ?_
  refine Ru_getR (pc := 44) (u + 5) dX9_copy_44 fl_X9_23 (shTown_0 hu) rfl (rfX_of (o := u) (j := 5) (shTown_0 hu) rfl) ?_
  refine Ru_iconst (pc := 47) (nI 0) dX9_copy_47 rfl ?_
  refine Ru_aload_n (pc := 48) dX9_copy_48 rfl rfl ?_
  refine Ru_getR (pc := 49) (u + 5) dX9_copy_49 fl_X9_23 (shTown_0 hu) rfl (rfX_of (o := u) (j := 5) (shTown_0 hu) rfl) ?_
  refine Ru_alen (pc := 52) dX9_copy_52 (shTown_5 hu) (by decide) ?_
  refine Ru_copyI (pc := 53) rfl dX9_copy_53 cp_X9 (shTown_5 ht) (shTown_5 hu) (by omega) (by omega) (by decide) (Nat.le_of_ble_eq_true rfl) ?_
  generalize en6 : r_wI M5 (u + 5) (va_cpy (M5.1 (t + 5)) (M5.1 (u + 5)) 0 0 12) = M6
  have st6 : ∀ o q, ¬ o = (u + 5) → r_eq3 M5 M6 o q := fun o q h => by
    rw [← en6]
    exact wI9_n h
  have vl6 : ∀ q, q < 12 → M6.1 (u + 5) q = M5.1 (t + 5) q := fun q hq => by
    rw [← en6]
    exact wI9_s.trans (cpy0 hq)
  have rf6 : ∀ o q, M6.2.2 o q = M.2.2 o q := fun o q => by
    rw [← en6]
    exact rf5 o q
  have cf6 : ∀ o q, ¬ P9 u lu pu o → r_eq3 M M6 o q := fun o q h => e3t (cf5 o q h) (st6 o q (by unfold P9 at h; omega))
  refine Ru_aload_n (pc := 56) dX9_copy_56 rfl rfl ?_
  refine Ru_getR (pc := 57) (t + 6) dX9_copy_57 fl_X9_27 (shTown_0 ht) rfl (rfX_of (o := t) (j := 6) (shTown_0 ht) rfl) ?_
  refine Ru_iconst (pc := 60) (nI 0) dX9_copy_60 rfl ?_
  refine Ru_aload_n (pc := 61) dX9_copy_61 rfl rfl ?_
  refine Ru_getR (pc := 62) (u + 6) dX9_copy_62 fl_X9_27 (shTown_0 hu) rfl (rfX_of (o := u) (j := 6) (shTown_0 hu) rfl) ?_
  refine Ru_iconst (pc := 65) (nI 0) dX9_copy_65 rfl ?_
  refine Ru_aload_n (pc := 66) dX9_copy_66 rfl rfl ?_
  refine Ru_getR (pc := 67) (u + 6) dX9_copy_67 fl_X9_27 (shTown_0 hu) rfl (rfX_of (o := u) (j := 6) (shTown_0 hu) rfl) ?_
  refine Ru_alen (pc := 70) dX9_copy_70 (shTown_6 hu) (by decide) ?_
  refine Ru_copyI (pc := 71) rfl dX9_copy_71 cp_X9 (shTown_6 ht) (shTown_6 hu) (by omega) (by omega) (by decide) (Nat.le_of_ble_eq_true rfl) ?_
  generalize en7 : r_wI M6 (u + 6) (va_cpy (M6.1 (t + 6)) (M6.1 (u + 6)) 0 0 12) = M7
  have st7 : ∀ o q, ¬ o = (u + 6) → r_eq3 M6 M7 o q := fun o q h => by
    rw [← en7]
    exact wI9_n h
  have vl7 : ∀ q, q < 12 → M7.1 (u + 6) q = M6.1 (t + 6) q := fun q hq => by
    rw [← en7]
    exact wI9_s.trans (cpy0 hq)
  have rf7 : ∀ o q, M7.2.2 o q = M.2.2 o q := fun o q => by
    rw [← en7]
    exact rf6 o q
  have cf7 : ∀ o q, ¬ P9 u lu pu o → r_eq3 M M7 o q := fun o q h => e3t (cf6 o q h) (st7 o q (by unfold P9 at h; omega))
  refine Ru_aload_n (pc := 74) dX9_copy_74 rfl rfl ?_
  refine Ru_getR (pc := 75) (t + 7) dX9_copy_75 fl_X9_30 (shTown_0 ht) rfl (rfX_of (o := t) (j := 7) (shTown_0 ht) rfl) ?_
  refine Ru_iconst (pc := 78) (nI 0) dX9_copy_78 rfl ?_
  refine Ru_aload_n (pc := 79) dX9_copy_79 rfl rfl ?_
  refine Ru_getR (pc := 80) (u + 7) dX9_copy_80 fl_X9_30 (shTown_0 hu) rfl (rfX_of (o := u) (j := 7) (shTown_0 hu) rfl) ?_
  refine Ru_iconst (pc := 83) (nI 0) dX9_copy_83 rfl ?_
  refine Ru_aload_n (pc := 84) dX9_copy_84 rfl rfl ?_
  refine Ru_getR (pc := 85) (u + 7) dX9_copy_85 fl_X9_30 (shTown_0 hu) rfl (rfX_of (o := u) (j := 7) (shTown_0 hu) rfl) ?_
  refine Ru_alen (pc := 88) dX9_copy_88 (shTown_7 hu) (by decide) ?_
  refine Ru_copyI (pc := 89) rfl dX9_copy_89 cp_X9 (shTown_7 ht) (shTown_7 hu) (by omega) (by omega) (by decide) (Nat.le_of_ble_eq_true rfl) ?_
  generalize en8 : r_wI M7 (u + 7) (va_cpy (M7.1 (t + 7)) (M7.1 (u + 7)) 0 0 12) = M8
  have st8 : ∀ o q, ¬ o = (u + 7) → r_eq3 M7 M8 o q := fun o q h => by
    rw [← en8]
    exact wI9_n h
  have vl8 : ∀ q, q < 12 → M8.1 (u + 7) q = M7.1 (t + 7) q := fun q hq => by
    rw [← en8]
    exact wI9_s.trans (cpy0 hq)
  have rf8 : ∀ o q, M8.2.2 o q = M.2.2 o q := fun o q => by
    rw [← en8]
    exact rf7 o q
  have cf8 : ∀ o q, ¬ P9 u lu pu o → r_eq3 M M8 o q := fun o q h => e3t (cf7 o q h) (st8 o q (by unfold P9 at h; omega))
  refine Ru_aload_n (pc := 92) dX9_copy_92 rfl rfl ?_
  refine Ru_getR (pc := 93) (t + 8) dX9_copy_93 fl_X9_33 (shTown_0 ht) rfl (rfX_of (o := t) (j := 8) (shTown_0 ht) rfl) ?_
  refine Ru_iconst (pc := 96) (nI 0) dX9_copy_96 rfl ?_
  refine Ru_aload_n (pc := 97) dX9_copy_97 rfl rfl ?_
  refine Ru_getR (pc := 98) (u + 8) dX9_copy_98 fl_X9_33 (shTown_0 hu) rfl (rfX_of (o := u) (j := 8) (shTown_0 hu) rfl) ?_
  refine Ru_iconst (pc := 101) (nI 0) dX9_copy_101 rfl ?_
  refine Ru_aload_n (pc := 102) dX9_copy_102 rfl rfl ?_
  refine Ru_getR (pc := 103) (u + 8) dX9_copy_103 fl_X9_33 (shTown_0 hu) rfl (rfX_of (o := u) (j := 8) (shTown_0 hu) rfl) ?_
  refine Ru_alen (pc := 106) dX9_copy_106 (shTown_8 hu) (by decide) ?_
  refine Ru_copyI (pc := 107) rfl dX9_copy_107 cp_X9 (shTown_8 ht) (shTown_8 hu) (by omega) (by omega) (by decide) (Nat.le_of_ble_eq_true rfl) ?_
  generalize en9 : r_wI M8 (u + 8) (va_cpy (M8.1 (t + 8)) (M8.1 (u + 8)) 0 0 12) = M9
  have st9 : ∀ o q, ¬ o = (u + 8) → r_eq3 M8 M9 o q := fun o q h => by
    rw [← en9]
    exact wI9_n h
  have vl9 : ∀ q, q < 12 → M9.1 (u + 8) q = M8.1 (t + 8) q := fun q hq => by
    rw [← en9]
    exact wI9_s.trans (cpy0 hq)
  have rf9 : ∀ o q, M9.2.2 o q = M.2.2 o q := fun o q => by
    rw [← en9]
    exact rf8 o q
  have cf9 : ∀ o q, ¬ P9 u lu pu o → r_eq3 M M9 o q := fun o q h => e3t (cf8 o q h) (st9 o q (by unfold P9 at h; omega))
  refine Ru_aload_n (pc := 110) dX9_copy_110 rfl rfl ?_
  refine Ru_getR (pc := 111) (t + 9) dX9_copy_111 fl_X9_36 (shTown_0 ht) rfl (rfX_of (o := t) (j := 9) (shTown_0 ht) rfl) ?_
  refine Ru_iconst (pc := 114) (nI 0) dX9_copy_114 rfl ?_
  refine Ru_aload_n (pc := 115) dX9_copy_115 rfl rfl ?_
  refine Ru_getR (pc := 116) (u + 9) dX9_copy_116 fl_X9_36 (shTown_0 hu) rfl (rfX_of (o := u) (j := 9) (shTown_0 hu) rfl) ?_
  refine Ru_iconst (pc := 119) (nI 0) dX9_copy_119 rfl ?_
  refine Ru_aload_n (pc := 120) dX9_copy_120 rfl rfl ?_
  refine Ru_getR (pc := 121) (u + 9) dX9_copy_121 fl_X9_36 (shTown_0 hu) rfl (rfX_of (o := u) (j := 9) (shTown_0 hu) rfl) ?_
  refine Ru_alen (pc := 124) dX9_copy_124 (shTown_9 hu) (by decide) ?_
  refine Ru_copyI (pc := 125) rfl dX9_copy_125 cp_X9 (shTown_9 ht) (shTown_9 hu) (by omega) (by omega) (by decide) (Nat.le_of_ble_eq_true rfl) ?_
  generalize en10 : r_wI M9 (u + 9) (va_cpy (M9.1 (t + 9)) (M9.1 (u + 9)) 0 0 12) = M10
  have st10 : ∀ o q, ¬ o = (u + 9) → r_eq3 M9 M10 o q := fun o q h => by
    rw [← en10]
    exact wI9_n h
  have vl10 : ∀ q, q < 12 → M10.1 (u + 9) q = M9.1 (t + 9) q := fun q hq => by
    rw [← en10]
    exact wI9_s.trans (cpy0 hq)
  have rf10 : ∀ o q, M10.2.2 o q = M.2.2 o q := fun o q => by
    rw [← en10]
    exact rf9 o q
  have cf10 : ∀ o q, ¬ P9 u lu pu o → r_eq3 M M10 o q := fun o q h => e3t (cf9 o q h) (st10 o q (by unfold P9 at h; omega))
  refine Ru_aload_n (pc := 128) dX9_copy_128 rfl rfl ?_
  refine Ru_getR (pc := 129) (u + 10) dX9_copy_129 fl_X9_39 (shTown_0 hu) rfl (rfX_of (o := u) (j := 10) (shTown_0 hu) rfl) ?_
  refine Ru_aload_n (pc := 132) dX9_copy_132 rfl rfl ?_
  refine Ru_getR (pc := 133) (t + 10) dX9_copy_133 fl_X9_39 (shTown_0 ht) rfl (rfX_of (o := t) (j := 10) (shTown_0 ht) rfl) ?_
  refine Ru_cv1 (pc := 136) dX9_copy_136 mv_X9_168 (shNames_0 (isNames_t hu).2.2) (by decide) (Nat.le_of_ble_eq_true rfl) (c_X3_copy (isNames_t hu).2.2 (isNames_t ht).2.2 (fun j hj q => by unfold nP; have := htu 10 j hj; omega) (fun M11 st11 rf11' vl11 vw11 => ?_)) 
  have rf11 : ∀ o q, M11.2.2 o q = M.2.2 o q := fun o q => (rf11' o q).trans (rf10 o q)
  have cf11 : ∀ o q, ¬ P9 u lu pu o → r_eq3 M M11 o q := fun o q h => e3t (cf10 o q h) (st11 o q (by unfold P9 at h; unfold nP; omega))
  refine Ru_aload_n (pc := 139) dX9_copy_139 rfl rfl ?_
  refine Ru_getR (pc := 140) (t + 12) dX9_copy_140 fl_X9_42 (shTown_0 ht) rfl (rfX_of (o := t) (j := 12) (shTown_0 ht) rfl) ?_
  refine Ru_iconst (pc := 143) (nI 0) dX9_copy_143 rfl ?_
  refine Ru_aload_n (pc := 144) dX9_copy_144 rfl rfl ?_
  refine Ru_getR (pc := 145) (u + 12) dX9_copy_145 fl_X9_42 (shTown_0 hu) rfl (rfX_of (o := u) (j := 12) (shTown_0 hu) rfl) ?_
  refine Ru_iconst (pc := 148) (nI 0) dX9_copy_148 rfl ?_
  refine Ru_aload_n (pc := 149) dX9_copy_149 rfl rfl ?_
  refine Ru_getR (pc := 150) (u + 12) dX9_copy_150 fl_X9_42 (shTown_0 hu) rfl (rfX_of (o := u) (j := 12) (shTown_0 hu) rfl) ?_
  refine Ru_alen (pc := 153) dX9_copy_153 (shTown_12 hu) (by decide) ?_
  refine Ru_copyI (pc := 154) rfl dX9_copy_154 cp_X9 (shTown_12 ht) (shTown_12 hu) (by omega) (by omega) (by decide) (Nat.le_of_ble_eq_true rfl) ?_
  generalize en12 : r_wI M11 (u + 12) (va_cpy (M11.1 (t + 12)) (M11.1 (u + 12)) 0 0 6) = M12
  have st12 : ∀ o q, ¬ o = (u + 12) → r_eq3 M11 M12 o q := fun o q h => by
    rw [← en12]
    exact wI9_n h
  have vl12 : ∀ q, q < 6 → M12.1 (u + 12) q = M11.1 (t + 12) q := fun q hq => by
    rw [← en12]
    exact wI9_s.trans (cpy0 hq)
  have rf12 : ∀ o q, M12.2.2 o q = M.2.2 o q := fun o q => by
    rw [← en12]
    exact rf11 o q
  have cf12 : ∀ o q, ¬ P9 u lu pu o → r_eq3 M M12 o q := fun o q h => e3t (cf11 o q h) (st12 o q (by unfold P9 at h; omega))
  refine Ru_aload_n (pc := 157) dX9_copy_157 rfl rfl ?_
  refine Ru_getR (pc := 158) (t + 13) dX9_copy_158 fl_X9_45 (shTown_0 ht) rfl (rfX_of (o := t) (j := 13) (shTown_0 ht) rfl) ?_
  refine Ru_iconst (pc := 161) (nI 0) dX9_copy_161 rfl ?_
  refine Ru_aload_n (pc := 162) dX9_copy_162 rfl rfl ?_
  refine Ru_getR (pc := 163) (u + 13) dX9_copy_163 fl_X9_45 (shTown_0 hu) rfl (rfX_of (o := u) (j := 13) (shTown_0 hu) rfl) ?_
  refine Ru_iconst (pc := 166) (nI 0) dX9_copy_166 rfl ?_
  refine Ru_aload_n (pc := 167) dX9_copy_167 rfl rfl ?_
  refine Ru_getR (pc := 168) (u + 13) dX9_copy_168 fl_X9_45 (shTown_0 hu) rfl (rfX_of (o := u) (j := 13) (shTown_0 hu) rfl) ?_
  refine Ru_alen (pc := 171) dX9_copy_171 (shTown_13 hu) (by decide) ?_
  refine Ru_copyI (pc := 172) rfl dX9_copy_172 cp_X9 (shTown_13 ht) (shTown_13 hu) (by omega) (by omega) (by decide) (Nat.le_of_ble_eq_true rfl) ?_
  generalize en13 : r_wI M12 (u + 13) (va_cpy (M12.1 (t + 13)) (M12.1 (u + 13)) 0 0 6) = M13
  have st13 : ∀ o q, ¬ o = (u + 13) → r_eq3 M12 M13 o q := fun o q h => by
    rw [← en13]
    exact wI9_n h
  have vl13 : ∀ q, q < 6 → M13.1 (u + 13) q = M12.1 (t + 13) q := fun q hq => by
    rw [← en13]
    exact wI9_s.trans (cpy0 hq)
  have rf13 : ∀ o q, M13.2.2 o q = M.2.2 o q := fun o q => by
    rw [← en13]
    exact rf12 o q
  have cf13 : ∀ o q, ¬ P9 u lu pu o → r_eq3 M M13 o q := fun o q h => e3t (cf12 o q h) (st13 o q (by unfold P9 at h; omega))
  refine Ru_aload_n (pc := 175) dX9_copy_175 rfl rfl ?_
  refine Ru_aload_n (pc := 176) dX9_copy_176 rfl rfl ?_
  refine Ru_getI (pc := 177) dX9_copy_177 fl_X9_103 (shTown_0 ht) rfl ?_
  refine Ru_putI (pc := 180) rfl dX9_copy_180 fl_X9_103 (shTown_0 hu) ?_
  generalize en14 : r_sI M13 u 12 (M13.1 t 12) = M14
  have st14 : ∀ o q, ¬ (o = u ∧ q = 12) → r_eq3 M13 M14 o q := fun o q h => by
    rw [← en14]
    exact ⟨r_sI_n h, rfl, rfl⟩
  have vl14 : M14.1 u 12 = (M13.1 t 12) := by
    rw [← en14]
    exact r_sI_s
  have rf14 : ∀ o q, M14.2.2 o q = M.2.2 o q := fun o q => by
    rw [← en14]
    exact rf13 o q
  have cf14 : ∀ o q, ¬ P9 u lu pu o → r_eq3 M M14 o q := fun o q h => e3t (cf13 o q h) (st14 o q (by unfold P9 at h; omega))
  refine Ru_aload_n (pc := 183) dX9_copy_183 rfl rfl ?_
  refine Ru_getR (pc := 184) (t + 14) dX9_copy_184 fl_X9_48 (shTown_0 ht) rfl (rfX_of (o := t) (j := 14) (shTown_0 ht) rfl) ?_
  refine Ru_iconst (pc := 187) (nI 0) dX9_copy_187 rfl ?_
  refine Ru_aload_n (pc := 188) dX9_copy_188 rfl rfl ?_
  refine Ru_getR (pc := 189) (u + 14) dX9_copy_189 fl_X9_48 (shTown_0 hu) rfl (rfX_of (o := u) (j := 14) (shTown_0 hu) rfl) ?_
  refine Ru_iconst (pc := 192) (nI 0) dX9_copy_192 rfl ?_
  refine Ru_aload_n (pc := 193) dX9_copy_193 rfl rfl ?_
  refine Ru_getR (pc := 194) (u + 14) dX9_copy_194 fl_X9_48 (shTown_0 hu) rfl (rfX_of (o := u) (j := 14) (shTown_0 hu) rfl) ?_
  refine Ru_alen (pc := 197) dX9_copy_197 (shTown_14 hu) (by decide) ?_
  refine Ru_copyI (pc := 198) rfl dX9_copy_198 cp_X9 (shTown_14 ht) (shTown_14 hu) (by omega) (by omega) (by decide) (Nat.le_of_ble_eq_true rfl) ?_
  generalize en15 : r_wI M14 (u + 14) (va_cpy (M14.1 (t + 14)) (M14.1 (u + 14)) 0 0 8) = M15
  have st15 : ∀ o q, ¬ o = (u + 14) → r_eq3 M14 M15 o q := fun o q h => by
    rw [← en15]
    exact wI9_n h
  have vl15 : ∀ q, q < 8 → M15.1 (u + 14) q = M14.1 (t + 14) q := fun q hq => by
    rw [← en15]
    exact wI9_s.trans (cpy0 hq)
  have rf15 : ∀ o q, M15.2.2 o q = M.2.2 o q := fun o q => by
    rw [← en15]
    exact rf14 o q
  have cf15 : ∀ o q, ¬ P9 u lu pu o → r_eq3 M M15 o q := fun o q h => e3t (cf14 o q h) (st15 o q (by unfold P9 at h; omega))
  refine Ru_aload_n (pc := 201) dX9_copy_201 rfl rfl ?_
  refine Ru_getR (pc := 202) (t + 15) dX9_copy_202 fl_X9_51 (shTown_0 ht) rfl (rfX_of (o := t) (j := 15) (shTown_0 ht) rfl) ?_
  refine Ru_iconst (pc := 205) (nI 0) dX9_copy_205 rfl ?_
  refine Ru_aload_n (pc := 206) dX9_copy_206 rfl rfl ?_
  refine Ru_getR (pc := 207) (u + 15) dX9_copy_207 fl_X9_51 (shTown_0 hu) rfl (rfX_of (o := u) (j := 15) (shTown_0 hu) rfl) ?_
  refine Ru_iconst (pc := 210) (nI 0) dX9_copy_210 rfl ?_
  refine Ru_aload_n (pc := 211) dX9_copy_211 rfl rfl ?_
  refine Ru_getR (pc := 212) (u + 15) dX9_copy_212 fl_X9_51 (shTown_0 hu) rfl (rfX_of (o := u) (j := 15) (shTown_0 hu) rfl) ?_
  refine Ru_alen (pc := 215) dX9_copy_215 (shTown_15 hu) (by decide) ?_
  refine Ru_copyI (pc := 216) rfl dX9_copy_216 cp_X9 (shTown_15 ht) (shTown_15 hu) (by omega) (by omega) (by decide) (Nat.le_of_ble_eq_true rfl) ?_
  generalize en16 : r_wI M15 (u + 15) (va_cpy (M15.1 (t + 15)) (M15.1 (u + 15)) 0 0 8) = M16
  have st16 : ∀ o q, ¬ o = (u + 15) → r_eq3 M15 M16 o q := fun o q h => by
    rw [← en16]
    exact wI9_n h
  have vl16 : ∀ q, q < 8 → M16.1 (u + 15) q = M15.1 (t + 15) q := fun q hq => by
    rw [← en16]
    exact wI9_s.trans (cpy0 hq)
  have rf16 : ∀ o q, M16.2.2 o q = M.2.2 o q := fun o q => by
    rw [← en16]
    exact rf15 o q
  have cf16 : ∀ o q, ¬ P9 u lu pu o → r_eq3 M M16 o q := fun o q h => e3t (cf15 o q h) (st16 o q (by unfold P9 at h; omega))
  refine Ru_aload_n (pc := 219) dX9_copy_219 rfl rfl ?_
  refine Ru_getR (pc := 220) (t + 16) dX9_copy_220 fl_X9_54 (shTown_0 ht) rfl (rfX_of (o := t) (j := 16) (shTown_0 ht) rfl) ?_
  refine Ru_iconst (pc := 223) (nI 0) dX9_copy_223 rfl ?_
  refine Ru_aload_n (pc := 224) dX9_copy_224 rfl rfl ?_
  refine Ru_getR (pc := 225) (u + 16) dX9_copy_225 fl_X9_54 (shTown_0 hu) rfl (rfX_of (o := u) (j := 16) (shTown_0 hu) rfl) ?_
  refine Ru_iconst (pc := 228) (nI 0) dX9_copy_228 rfl ?_
  refine Ru_aload_n (pc := 229) dX9_copy_229 rfl rfl ?_
  refine Ru_getR (pc := 230) (u + 16) dX9_copy_230 fl_X9_54 (shTown_0 hu) rfl (rfX_of (o := u) (j := 16) (shTown_0 hu) rfl) ?_
  refine Ru_alen (pc := 233) dX9_copy_233 (shTown_16 hu) (by decide) ?_
  refine Ru_copyI (pc := 234) rfl dX9_copy_234 cp_X9 (shTown_16 ht) (shTown_16 hu) (by omega) (by omega) (by decide) (Nat.le_of_ble_eq_true rfl) ?_
  generalize en17 : r_wI M16 (u + 16) (va_cpy (M16.1 (t + 16)) (M16.1 (u + 16)) 0 0 8) = M17
  have st17 : ∀ o q, ¬ o = (u + 16) → r_eq3 M16 M17 o q := fun o q h => by
    rw [← en17]
    exact wI9_n h
  have vl17 : ∀ q, q < 8 → M17.1 (u + 16) q = M16.1 (t + 16) q := fun q hq => by
    rw [← en17]
    exact wI9_s.trans (cpy0 hq)
  have rf17 : ∀ o q, M17.2.2 o q = M.2.2 o q := fun o q => by
    rw [← en17]
    exact rf16 o q
  have cf17 : ∀ o q, ¬ P9 u lu pu o → r_eq3 M M17 o q := fun o q h => e3t (cf16 o q h) (st17 o q (by unfold P9 at h; omega))
  refine Ru_aload_n (pc := 237) dX9_copy_237 rfl rfl ?_
  refine Ru_aload_n (pc := 238) dX9_copy_238 rfl rfl ?_
  refine Ru_getI (pc := 239) dX9_copy_239 fl_X9_106 (shTown_0 ht) rfl ?_
  refine Ru_putI (pc := 242) rfl dX9_copy_242 fl_X9_106 (shTown_0 hu) ?_
  generalize en18 : r_sI M17 u 16 (M17.1 t 16) = M18
  have st18 : ∀ o q, ¬ (o = u ∧ q = 16) → r_eq3 M17 M18 o q := fun o q h => by
    rw [← en18]
    exact ⟨r_sI_n h, rfl, rfl⟩
  have vl18 : M18.1 u 16 = (M17.1 t 16) := by
    rw [← en18]
    exact r_sI_s
  have rf18 : ∀ o q, M18.2.2 o q = M.2.2 o q := fun o q => by
    rw [← en18]
    exact rf17 o q
  have cf18 : ∀ o q, ¬ P9 u lu pu o → r_eq3 M M18 o q := fun o q h => e3t (cf17 o q h) (st18 o q (by unfold P9 at h; omega))
  refine Ru_aload_n (pc := 245) dX9_copy_245 rfl rfl ?_
  refine Ru_getR (pc := 246) (t + 17) dX9_copy_246 fl_X9_57 (shTown_0 ht) rfl (rfX_of (o := t) (j := 17) (shTown_0 ht) rfl) ?_
  refine Ru_iconst (pc := 249) (nI 0) dX9_copy_249 rfl ?_
  refine Ru_aload_n (pc := 250) dX9_copy_250 rfl rfl ?_
  refine Ru_getR (pc := 251) (u + 17) dX9_copy_251 fl_X9_57 (shTown_0 hu) rfl (rfX_of (o := u) (j := 17) (shTown_0 hu) rfl) ?_
  refine Ru_iconst (pc := 254) (nI 0) dX9_copy_254 rfl ?_
  refine Ru_aload_n (pc := 255) dX9_copy_255 rfl rfl ?_
  refine Ru_getR (pc := 256) (u + 17) dX9_copy_256 fl_X9_57 (shTown_0 hu) rfl (rfX_of (o := u) (j := 17) (shTown_0 hu) rfl) ?_
  refine Ru_alen (pc := 259) dX9_copy_259 (shTown_17 hu) (by decide) ?_
  refine Ru_copyI (pc := 260) rfl dX9_copy_260 cp_X9 (shTown_17 ht) (shTown_17 hu) (by omega) (by omega) (by decide) (Nat.le_of_ble_eq_true rfl) ?_
  generalize en19 : r_wI M18 (u + 17) (va_cpy (M18.1 (t + 17)) (M18.1 (u + 17)) 0 0 8) = M19
  have st19 : ∀ o q, ¬ o = (u + 17) → r_eq3 M18 M19 o q := fun o q h => by
    rw [← en19]
    exact wI9_n h
  have vl19 : ∀ q, q < 8 → M19.1 (u + 17) q = M18.1 (t + 17) q := fun q hq => by
    rw [← en19]
    exact wI9_s.trans (cpy0 hq)
  have rf19 : ∀ o q, M19.2.2 o q = M.2.2 o q := fun o q => by
    rw [← en19]
    exact rf18 o q
  have cf19 : ∀ o q, ¬ P9 u lu pu o → r_eq3 M M19 o q := fun o q h => e3t (cf18 o q h) (st19 o q (by unfold P9 at h; omega))
  refine Ru_aload_n (pc := 263) dX9_copy_263 rfl rfl ?_
  refine Ru_getR (pc := 264) (t + 18) dX9_copy_264 fl_X9_60 (shTown_0 ht) rfl (rfX_of (o := t) (j := 18) (shTown_0 ht) rfl) ?_
  refine Ru_iconst (pc := 267) (nI 0) dX9_copy_267 rfl ?_
  refine Ru_aload_n (pc := 268) dX9_copy_268 rfl rfl ?_
  refine Ru_getR (pc := 269) (u + 18) dX9_copy_269 fl_X9_60 (shTown_0 hu) rfl (rfX_of (o := u) (j := 18) (shTown_0 hu) rfl) ?_
  refine Ru_iconst (pc := 272) (nI 0) dX9_copy_272 rfl ?_
  refine Ru_aload_n (pc := 273) dX9_copy_273 rfl rfl ?_
  refine Ru_getR (pc := 274) (u + 18) dX9_copy_274 fl_X9_60 (shTown_0 hu) rfl (rfX_of (o := u) (j := 18) (shTown_0 hu) rfl) ?_
  refine Ru_alen (pc := 277) dX9_copy_277 (shTown_18 hu) (by decide) ?_
  refine Ru_copyI (pc := 278) rfl dX9_copy_278 cp_X9 (shTown_18 ht) (shTown_18 hu) (by omega) (by omega) (by decide) (Nat.le_of_ble_eq_true rfl) ?_
  generalize en20 : r_wI M19 (u + 18) (va_cpy (M19.1 (t + 18)) (M19.1 (u + 18)) 0 0 26) = M20
  have st20 : ∀ o q, ¬ o = (u + 18) → r_eq3 M19 M20 o q := fun o q h => by
    rw [← en20]
    exact wI9_n h
  have vl20 : ∀ q, q < 26 → M20.1 (u + 18) q = M19.1 (t + 18) q := fun q hq => by
    rw [← en20]
    exact wI9_s.trans (cpy0 hq)
  have rf20 : ∀ o q, M20.2.2 o q = M.2.2 o q := fun o q => by
    rw [← en20]
    exact rf19 o q
  have cf20 : ∀ o q, ¬ P9 u lu pu o → r_eq3 M M20 o q := fun o q h => e3t (cf19 o q h) (st20 o q (by unfold P9 at h; omega))
  refine Ru_aload_n (pc := 281) dX9_copy_281 rfl rfl ?_
  refine Ru_getR (pc := 282) lu dX9_copy_282 fl_X9_66 (shTown_0 hu) rfl ((rfX_mut (shTown_0 hu) rfl).trans ((rf20 u 19).trans hul)) ?_
  refine Ru_aload_n (pc := 285) dX9_copy_285 rfl rfl ?_
  refine Ru_getR (pc := 286) lt dX9_copy_286 fl_X9_66 (shTown_0 ht) rfl ((rfX_mut (shTown_0 ht) rfl).trans ((rf20 t 19).trans htl)) ?_
  refine Ru_cv1 (pc := 289) dX9_copy_289 mv_X9_178 (shLaw_0 hlu) (by decide) (Nat.le_of_ble_eq_true rfl) (c_X2_copy hlu hlt (fun j hj => fun z => hsL j hj (Or.inr (Or.inl z))) (fun M21 st21 rf21' l0 l4 l5 l1 l2 l3 => ?_)) 
  have rf21 : ∀ o q, M21.2.2 o q = M.2.2 o q := fun o q => (rf21' o q).trans (rf20 o q)
  have cf21 : ∀ o q, ¬ P9 u lu pu o → r_eq3 M M21 o q := fun o q h => e3t (cf20 o q h) (st21 o q (fun z => h (Or.inr (Or.inl z))))
  refine Ru_aload_n (pc := 292) dX9_copy_292 rfl rfl ?_
  refine Ru_getR (pc := 293) pu dX9_copy_293 fl_X9_73 (shTown_0 hu) rfl ((rfX_mut (shTown_0 hu) rfl).trans ((rf21 u 20).trans hup)) ?_
  refine Ru_aload_n (pc := 296) dX9_copy_296 rfl rfl ?_
  refine Ru_getR (pc := 297) pt dX9_copy_297 fl_X9_73 (shTown_0 ht) rfl ((rfX_mut (shTown_0 ht) rfl).trans ((rf21 t 20).trans htp)) ?_
  refine Ru_cv1 (pc := 300) dX9_copy_300 mv_X9_181 (shPlan_0 hpu) (by decide) (Nat.le_of_ble_eq_true rfl) (c_X5_copy hpu hpt (by rw [(cf21 pt 0 (hsP 0 (by decide))).1]; exact h01) (fun j hj => fun z => hsP j hj (Or.inr (Or.inr z))) (fun M22 st22 rf22' p0 p1 p2 p3 p4 p5 => ?_)) 
  have rf22 : ∀ o q, M22.2.2 o q = M.2.2 o q := fun o q => (rf22' o q).trans (rf21 o q)
  have cf22 : ∀ o q, ¬ P9 u lu pu o → r_eq3 M M22 o q := fun o q h => e3t (cf21 o q h) (st22 o q (fun z => h (Or.inr (Or.inr z))))
  refine Ru_vret (pc := 303) dX9_copy_303 rfl ⟨Nat.le_refl _, Nat.le_refl _⟩ ?_
  refine k M22 cf22 rf22 ?_ ?_ ?_
  · exact ⟨⟨((e3t (e3t (e3t (e3t (e3t (e3t (e3t (e3t (e3t (e3t (e3t (e3t (e3t (e3t (e3t (e3t (e3t (e3t (e3t (st3 (u + 1) 2 (by omega)) (st4 (u + 1) 2 (by omega))) (st5 (u + 1) 2 (by unfold nP; omega))) (st6 (u + 1) 2 (by omega))) (st7 (u + 1) 2 (by omega))) (st8 (u + 1) 2 (by omega))) (st9 (u + 1) 2 (by omega))) (st10 (u + 1) 2 (by omega))) (st11 (u + 1) 2 (by unfold nP; omega))) (st12 (u + 1) 2 (by omega))) (st13 (u + 1) 2 (by omega))) (st14 (u + 1) 2 (by omega))) (st15 (u + 1) 2 (by omega))) (st16 (u + 1) 2 (by omega))) (st17 (u + 1) 2 (by omega))) (st18 (u + 1) 2 (by omega))) (st19 (u + 1) 2 (by omega))) (st20 (u + 1) 2 (by omega))) (st21 (u + 1) 2 (qul9 hu hlu 1 2 (by decide)))) (st22 (u + 1) 2 (qup9 hu hpu 1 2 (by decide)))).1.trans ((vl2).trans (cf (t + 1) 2 (hsT 1 (by decide))).1)), ((e3t (e3t (e3t (e3t (e3t (e3t (e3t (e3t (e3t (e3t (e3t (e3t (e3t (e3t (e3t (e3t (st6 (u + 3) 2 (by omega)) (st7 (u + 3) 2 (by omega))) (st8 (u + 3) 2 (by omega))) (st9 (u + 3) 2 (by omega))) (st10 (u + 3) 2 (by omega))) (st11 (u + 3) 2 (by unfold nP; omega))) (st12 (u + 3) 2 (by omega))) (st13 (u + 3) 2 (by omega))) (st14 (u + 3) 2 (by omega))) (st15 (u + 3) 2 (by omega))) (st16 (u + 3) 2 (by omega))) (st17 (u + 3) 2 (by omega))) (st18 (u + 3) 2 (by omega))) (st19 (u + 3) 2 (by omega))) (st20 (u + 3) 2 (by omega))) (st21 (u + 3) 2 (qul9 hu hlu 3 2 (by decide)))) (st22 (u + 3) 2 (qup9 hu hpu 3 2 (by decide)))).1.trans ((vl5).trans (cf4 (t + 3) 2 (hsT 3 (by decide))).1)), ((e3t (e3t (e3t (e3t (e3t (e3t (e3t (e3t (e3t (e3t (st12 (u + 10) 2 (by omega)) (st13 (u + 10) 2 (by omega))) (st14 (u + 10) 2 (by omega))) (st15 (u + 10) 2 (by omega))) (st16 (u + 10) 2 (by omega))) (st17 (u + 10) 2 (by omega))) (st18 (u + 10) 2 (by omega))) (st19 (u + 10) 2 (by omega))) (st20 (u + 10) 2 (by omega))) (st21 (u + 10) 2 (qul9 hu hlu 10 2 (by decide)))) (st22 (u + 10) 2 (qup9 hu hpu 10 2 (by decide)))).1.trans ((vl11).trans (cf10 (t + 10) 2 (hsT 10 (by decide))).1)), ((e3t (e3t (e3t (e3t (e3t (e3t (e3t (st15 u 12 (by omega)) (st16 u 12 (by omega))) (st17 u 12 (by omega))) (st18 u 12 (by omega))) (st19 u 12 (by omega))) (st20 u 12 (by omega))) (st21 u 12 (qul9 hu hlu 0 12 (by decide)))) (st22 u 12 (qup9 hu hpu 0 12 (by decide)))).1.trans ((vl14).trans (cf13 t 12 (hsT 0 (by decide))).1))⟩, ⟨((e3t (e3t (e3t (e3t (e3t (e3t (e3t (e3t (e3t (e3t (e3t (e3t (e3t (e3t (e3t (e3t (e3t (e3t (st4 u 1 (by omega)) (st5 u 1 (by unfold nP; omega))) (st6 u 1 (by omega))) (st7 u 1 (by omega))) (st8 u 1 (by omega))) (st9 u 1 (by omega))) (st10 u 1 (by omega))) (st11 u 1 (by unfold nP; omega))) (st12 u 1 (by omega))) (st13 u 1 (by omega))) (st14 u 1 (by omega))) (st15 u 1 (by omega))) (st16 u 1 (by omega))) (st17 u 1 (by omega))) (st18 u 1 (by omega))) (st19 u 1 (by omega))) (st20 u 1 (by omega))) (st21 u 1 (qul9 hu hlu 0 1 (by decide)))) (st22 u 1 (qup9 hu hpu 0 1 (by decide)))).1.trans ((vl3).trans (cf2 t 1 (hsT 0 (by decide))).1)), ((e3t (e3t (e3t (e3t (e3t (e3t (e3t (e3t (e3t (e3t (e3t (e3t (e3t (e3t (e3t (e3t (e3t (st5 u 2 (by unfold nP; omega)) (st6 u 2 (by omega))) (st7 u 2 (by omega))) (st8 u 2 (by omega))) (st9 u 2 (by omega))) (st10 u 2 (by omega))) (st11 u 2 (by unfold nP; omega))) (st12 u 2 (by omega))) (st13 u 2 (by omega))) (st14 u 2 (by omega))) (st15 u 2 (by omega))) (st16 u 2 (by omega))) (st17 u 2 (by omega))) (st18 u 2 (by omega))) (st19 u 2 (by omega))) (st20 u 2 (by omega))) (st21 u 2 (qul9 hu hlu 0 2 (by decide)))) (st22 u 2 (qup9 hu hpu 0 2 (by decide)))).1.trans ((vl4).trans (cf3 t 2 (hsT 0 (by decide))).1)), ((e3t (e3t (e3t (st19 u 16 (by omega)) (st20 u 16 (by omega))) (st21 u 16 (qul9 hu hlu 0 16 (by decide)))) (st22 u 16 (qup9 hu hpu 0 16 (by decide)))).1.trans ((vl18).trans (cf17 t 16 (hsT 0 (by decide))).1))⟩, ⟨(fun q hq => ((e3t (e3t (e3t (e3t (e3t (e3t (e3t (e3t (e3t (e3t (e3t (e3t (e3t (e3t (e3t (st7 (u + 5) q (by omega)) (st8 (u + 5) q (by omega))) (st9 (u + 5) q (by omega))) (st10 (u + 5) q (by omega))) (st11 (u + 5) q (by unfold nP; omega))) (st12 (u + 5) q (by omega))) (st13 (u + 5) q (by omega))) (st14 (u + 5) q (by omega))) (st15 (u + 5) q (by omega))) (st16 (u + 5) q (by omega))) (st17 (u + 5) q (by omega))) (st18 (u + 5) q (by omega))) (st19 (u + 5) q (by omega))) (st20 (u + 5) q (by omega))) (st21 (u + 5) q (qul9 hu hlu 5 q (by decide)))) (st22 (u + 5) q (qup9 hu hpu 5 q (by decide)))).1.trans ((vl6 q hq).trans (cf5 (t + 5) q (hsT 5 (by decide))).1))), (fun q hq => ((e3t (e3t (e3t (e3t (e3t (e3t (e3t (e3t (e3t (e3t (e3t (e3t (e3t (e3t (st8 (u + 6) q (by omega)) (st9 (u + 6) q (by omega))) (st10 (u + 6) q (by omega))) (st11 (u + 6) q (by unfold nP; omega))) (st12 (u + 6) q (by omega))) (st13 (u + 6) q (by omega))) (st14 (u + 6) q (by omega))) (st15 (u + 6) q (by omega))) (st16 (u + 6) q (by omega))) (st17 (u + 6) q (by omega))) (st18 (u + 6) q (by omega))) (st19 (u + 6) q (by omega))) (st20 (u + 6) q (by omega))) (st21 (u + 6) q (qul9 hu hlu 6 q (by decide)))) (st22 (u + 6) q (qup9 hu hpu 6 q (by decide)))).1.trans ((vl7 q hq).trans (cf6 (t + 6) q (hsT 6 (by decide))).1))), (fun q hq => ((e3t (e3t (e3t (e3t (e3t (e3t (e3t (e3t (e3t (e3t (e3t (e3t (e3t (st9 (u + 7) q (by omega)) (st10 (u + 7) q (by omega))) (st11 (u + 7) q (by unfold nP; omega))) (st12 (u + 7) q (by omega))) (st13 (u + 7) q (by omega))) (st14 (u + 7) q (by omega))) (st15 (u + 7) q (by omega))) (st16 (u + 7) q (by omega))) (st17 (u + 7) q (by omega))) (st18 (u + 7) q (by omega))) (st19 (u + 7) q (by omega))) (st20 (u + 7) q (by omega))) (st21 (u + 7) q (qul9 hu hlu 7 q (by decide)))) (st22 (u + 7) q (qup9 hu hpu 7 q (by decide)))).1.trans ((vl8 q hq).trans (cf7 (t + 7) q (hsT 7 (by decide))).1))), (fun q hq => ((e3t (e3t (e3t (e3t (e3t (e3t (e3t (e3t (e3t (e3t (e3t (e3t (st10 (u + 8) q (by omega)) (st11 (u + 8) q (by unfold nP; omega))) (st12 (u + 8) q (by omega))) (st13 (u + 8) q (by omega))) (st14 (u + 8) q (by omega))) (st15 (u + 8) q (by omega))) (st16 (u + 8) q (by omega))) (st17 (u + 8) q (by omega))) (st18 (u + 8) q (by omega))) (st19 (u + 8) q (by omega))) (st20 (u + 8) q (by omega))) (st21 (u + 8) q (qul9 hu hlu 8 q (by decide)))) (st22 (u + 8) q (qup9 hu hpu 8 q (by decide)))).1.trans ((vl9 q hq).trans (cf8 (t + 8) q (hsT 8 (by decide))).1))), (fun q hq => ((e3t (e3t (e3t (e3t (e3t (e3t (e3t (e3t (e3t (e3t (e3t (st11 (u + 9) q (by unfold nP; omega)) (st12 (u + 9) q (by omega))) (st13 (u + 9) q (by omega))) (st14 (u + 9) q (by omega))) (st15 (u + 9) q (by omega))) (st16 (u + 9) q (by omega))) (st17 (u + 9) q (by omega))) (st18 (u + 9) q (by omega))) (st19 (u + 9) q (by omega))) (st20 (u + 9) q (by omega))) (st21 (u + 9) q (qul9 hu hlu 9 q (by decide)))) (st22 (u + 9) q (qup9 hu hpu 9 q (by decide)))).1.trans ((vl10 q hq).trans (cf9 (t + 9) q (hsT 9 (by decide))).1)))⟩, ⟨(fun q hq => ((e3t (e3t (e3t (e3t (e3t (e3t (e3t (e3t (e3t (st13 (u + 12) q (by omega)) (st14 (u + 12) q (by omega))) (st15 (u + 12) q (by omega))) (st16 (u + 12) q (by omega))) (st17 (u + 12) q (by omega))) (st18 (u + 12) q (by omega))) (st19 (u + 12) q (by omega))) (st20 (u + 12) q (by omega))) (st21 (u + 12) q (qul9 hu hlu 12 q (by decide)))) (st22 (u + 12) q (qup9 hu hpu 12 q (by decide)))).1.trans ((vl12 q hq).trans (cf11 (t + 12) q (hsT 12 (by decide))).1))), (fun q hq => ((e3t (e3t (e3t (e3t (e3t (e3t (e3t (e3t (st14 (u + 13) q (by omega)) (st15 (u + 13) q (by omega))) (st16 (u + 13) q (by omega))) (st17 (u + 13) q (by omega))) (st18 (u + 13) q (by omega))) (st19 (u + 13) q (by omega))) (st20 (u + 13) q (by omega))) (st21 (u + 13) q (qul9 hu hlu 13 q (by decide)))) (st22 (u + 13) q (qup9 hu hpu 13 q (by decide)))).1.trans ((vl13 q hq).trans (cf12 (t + 13) q (hsT 13 (by decide))).1)))⟩, ⟨(fun q hq => ((e3t (e3t (e3t (e3t (e3t (e3t (st16 (u + 14) q (by omega)) (st17 (u + 14) q (by omega))) (st18 (u + 14) q (by omega))) (st19 (u + 14) q (by omega))) (st20 (u + 14) q (by omega))) (st21 (u + 14) q (qul9 hu hlu 14 q (by decide)))) (st22 (u + 14) q (qup9 hu hpu 14 q (by decide)))).1.trans ((vl15 q hq).trans (cf14 (t + 14) q (hsT 14 (by decide))).1))), (fun q hq => ((e3t (e3t (e3t (e3t (e3t (st17 (u + 15) q (by omega)) (st18 (u + 15) q (by omega))) (st19 (u + 15) q (by omega))) (st20 (u + 15) q (by omega))) (st21 (u + 15) q (qul9 hu hlu 15 q (by decide)))) (st22 (u + 15) q (qup9 hu hpu 15 q (by decide)))).1.trans ((vl16 q hq).trans (cf15 (t + 15) q (hsT 15 (by decide))).1))), (fun q hq => ((e3t (e3t (e3t (e3t (st18 (u + 16) q (by omega)) (st19 (u + 16) q (by omega))) (st20 (u + 16) q (by omega))) (st21 (u + 16) q (qul9 hu hlu 16 q (by decide)))) (st22 (u + 16) q (qup9 hu hpu 16 q (by decide)))).1.trans ((vl17 q hq).trans (cf16 (t + 16) q (hsT 16 (by decide))).1))), (fun q hq => ((e3t (e3t (st20 (u + 17) q (by omega)) (st21 (u + 17) q (qul9 hu hlu 17 q (by decide)))) (st22 (u + 17) q (qup9 hu hpu 17 q (by decide)))).1.trans ((vl19 q hq).trans (cf18 (t + 17) q (hsT 17 (by decide))).1))), (fun q hq => ((e3t (st21 (u + 18) q (qul9 hu hlu 18 q (by decide))) (st22 (u + 18) q (qup9 hu hpu 18 q (by decide)))).1.trans ((vl20 q hq).trans (cf19 (t + 18) q (hsT 18 (by decide))).1)))⟩, ⟨(fun q hq => ((e3t (e3t (e3t (e3t (e3t (e3t (e3t (e3t (e3t (e3t (e3t (e3t (e3t (e3t (e3t (e3t (e3t (e3t (e3t (st3 (u + 1 + 1) q (by omega)) (st4 (u + 1 + 1) q (by omega))) (st5 (u + 1 + 1) q (by unfold nP; omega))) (st6 (u + 1 + 1) q (by omega))) (st7 (u + 1 + 1) q (by omega))) (st8 (u + 1 + 1) q (by omega))) (st9 (u + 1 + 1) q (by omega))) (st10 (u + 1 + 1) q (by omega))) (st11 (u + 1 + 1) q (by unfold nP; omega))) (st12 (u + 1 + 1) q (by omega))) (st13 (u + 1 + 1) q (by omega))) (st14 (u + 1 + 1) q (by omega))) (st15 (u + 1 + 1) q (by omega))) (st16 (u + 1 + 1) q (by omega))) (st17 (u + 1 + 1) q (by omega))) (st18 (u + 1 + 1) q (by omega))) (st19 (u + 1 + 1) q (by omega))) (st20 (u + 1 + 1) q (by omega))) (st21 (u + 1 + 1) q (qul9 hu hlu 2 q (by decide)))) (st22 (u + 1 + 1) q (qup9 hu hpu 2 q (by decide)))).2.1.trans ((vw2 q hq).trans (cf (t + 1 + 1) q (hsT 2 (by decide))).2.1))), (fun q hq => ((e3t (e3t (e3t (e3t (e3t (e3t (e3t (e3t (e3t (e3t (e3t (e3t (e3t (e3t (e3t (e3t (st6 (u + 3 + 1) q (by omega)) (st7 (u + 3 + 1) q (by omega))) (st8 (u + 3 + 1) q (by omega))) (st9 (u + 3 + 1) q (by omega))) (st10 (u + 3 + 1) q (by omega))) (st11 (u + 3 + 1) q (by unfold nP; omega))) (st12 (u + 3 + 1) q (by omega))) (st13 (u + 3 + 1) q (by omega))) (st14 (u + 3 + 1) q (by omega))) (st15 (u + 3 + 1) q (by omega))) (st16 (u + 3 + 1) q (by omega))) (st17 (u + 3 + 1) q (by omega))) (st18 (u + 3 + 1) q (by omega))) (st19 (u + 3 + 1) q (by omega))) (st20 (u + 3 + 1) q (by omega))) (st21 (u + 3 + 1) q (qul9 hu hlu 4 q (by decide)))) (st22 (u + 3 + 1) q (qup9 hu hpu 4 q (by decide)))).2.1.trans ((vw5 q hq).trans (cf4 (t + 3 + 1) q (hsT 4 (by decide))).2.1))), (fun q hq => ((e3t (e3t (e3t (e3t (e3t (e3t (e3t (e3t (e3t (e3t (st12 (u + 10 + 1) q (by omega)) (st13 (u + 10 + 1) q (by omega))) (st14 (u + 10 + 1) q (by omega))) (st15 (u + 10 + 1) q (by omega))) (st16 (u + 10 + 1) q (by omega))) (st17 (u + 10 + 1) q (by omega))) (st18 (u + 10 + 1) q (by omega))) (st19 (u + 10 + 1) q (by omega))) (st20 (u + 10 + 1) q (by omega))) (st21 (u + 10 + 1) q (qul9 hu hlu 11 q (by decide)))) (st22 (u + 10 + 1) q (qup9 hu hpu 11 q (by decide)))).2.1.trans ((vw11 q hq).trans (cf10 (t + 10 + 1) q (hsT 11 (by decide))).2.1)))⟩, ⟨(e3t (e3t (e3t (e3t (e3t (e3t (e3t (e3t (e3t (e3t (e3t (e3t (e3t (e3t (e3t (e3t (e3t (e3t (e3t (e3t (st2 (u + 1) 0 (by unfold nP; omega)) (st3 (u + 1) 0 (by omega))) (st4 (u + 1) 0 (by omega))) (st5 (u + 1) 0 (by unfold nP; omega))) (st6 (u + 1) 0 (by omega))) (st7 (u + 1) 0 (by omega))) (st8 (u + 1) 0 (by omega))) (st9 (u + 1) 0 (by omega))) (st10 (u + 1) 0 (by omega))) (st11 (u + 1) 0 (by unfold nP; omega))) (st12 (u + 1) 0 (by omega))) (st13 (u + 1) 0 (by omega))) (st14 (u + 1) 0 (by omega))) (st15 (u + 1) 0 (by omega))) (st16 (u + 1) 0 (by omega))) (st17 (u + 1) 0 (by omega))) (st18 (u + 1) 0 (by omega))) (st19 (u + 1) 0 (by omega))) (st20 (u + 1) 0 (by omega))) (st21 (u + 1) 0 (qul9 hu hlu 1 0 (by decide)))) (st22 (u + 1) 0 (qup9 hu hpu 1 0 (by decide)))).1, (e3t (e3t (e3t (e3t (e3t (e3t (e3t (e3t (e3t (e3t (e3t (e3t (e3t (e3t (e3t (e3t (e3t (e3t (e3t (e3t (st2 (u + 3) 0 (by unfold nP; omega)) (st3 (u + 3) 0 (by omega))) (st4 (u + 3) 0 (by omega))) (st5 (u + 3) 0 (by unfold nP; omega))) (st6 (u + 3) 0 (by omega))) (st7 (u + 3) 0 (by omega))) (st8 (u + 3) 0 (by omega))) (st9 (u + 3) 0 (by omega))) (st10 (u + 3) 0 (by omega))) (st11 (u + 3) 0 (by unfold nP; omega))) (st12 (u + 3) 0 (by omega))) (st13 (u + 3) 0 (by omega))) (st14 (u + 3) 0 (by omega))) (st15 (u + 3) 0 (by omega))) (st16 (u + 3) 0 (by omega))) (st17 (u + 3) 0 (by omega))) (st18 (u + 3) 0 (by omega))) (st19 (u + 3) 0 (by omega))) (st20 (u + 3) 0 (by omega))) (st21 (u + 3) 0 (qul9 hu hlu 3 0 (by decide)))) (st22 (u + 3) 0 (qup9 hu hpu 3 0 (by decide)))).1, (e3t (e3t (e3t (e3t (e3t (e3t (e3t (e3t (e3t (e3t (e3t (e3t (e3t (e3t (e3t (e3t (e3t (e3t (e3t (e3t (st2 (u + 10) 0 (by unfold nP; omega)) (st3 (u + 10) 0 (by omega))) (st4 (u + 10) 0 (by omega))) (st5 (u + 10) 0 (by unfold nP; omega))) (st6 (u + 10) 0 (by omega))) (st7 (u + 10) 0 (by omega))) (st8 (u + 10) 0 (by omega))) (st9 (u + 10) 0 (by omega))) (st10 (u + 10) 0 (by omega))) (st11 (u + 10) 0 (by unfold nP; omega))) (st12 (u + 10) 0 (by omega))) (st13 (u + 10) 0 (by omega))) (st14 (u + 10) 0 (by omega))) (st15 (u + 10) 0 (by omega))) (st16 (u + 10) 0 (by omega))) (st17 (u + 10) 0 (by omega))) (st18 (u + 10) 0 (by omega))) (st19 (u + 10) 0 (by omega))) (st20 (u + 10) 0 (by omega))) (st21 (u + 10) 0 (qul9 hu hlu 10 0 (by decide)))) (st22 (u + 10) 0 (qup9 hu hpu 10 0 (by decide)))).1⟩⟩
  · exact ⟨((st22 lu 0 (qlp9 hlu hpu 0 0 (by decide))).1.trans (l0.trans (cf20 lt 0 (hsL 0 (by decide))).1)), fun q hq => ((st22 (lu + 1) q (qlp9 hlu hpu 1 q (by decide))).1.trans ((l1 q hq).trans (cf20 (lt + 1) q (hsL 1 (by decide))).1)), fun q hq => ((st22 (lu + 2) q (qlp9 hlu hpu 2 q (by decide))).1.trans ((l2 q hq).trans (cf20 (lt + 2) q (hsL 2 (by decide))).1)), fun q hq => ((st22 (lu + 3) q (qlp9 hlu hpu 3 q (by decide))).1.trans ((l3 q hq).trans (cf20 (lt + 3) q (hsL 3 (by decide))).1))⟩
  · exact ⟨(p0.trans (cf21 pt 0 (hsP 0 (by decide))).1), (p1.trans (cf21 pt 1 (hsP 0 (by decide))).1), fun q hq => ((p2 q hq).trans (cf21 (pt + 1) q (hsP 1 (by decide))).1), fun q hq => ((p3 q hq).trans (cf21 (pt + 2) q (hsP 2 (by decide))).1), fun q hq => ((p4 q hq).trans (cf21 (pt + 3) q (hsP 3 (by decide))).1), fun q hq => ((p5 q hq).trans (cf21 (pt + 4) q (hsP 4 (by decide))).1)⟩
