-- MARKS: the developers' copies
def r_oc (P : Nat → Nat → Prop) (M M' : Mem) : Prop := ∀ o k, ¬ P o k → r_eq3 M M' o k
theorem cpy0 {α : Type} {f g : Nat → α} {n k : Nat} (h : k < n) : va_cpy f g 0 0 n k = f k := by
  unfold va_cpy
  rw [if_pos ⟨Nat.zero_le _, by omega⟩]
  exact congrArg f (by omega)
theorem wI9_s {M : Mem} {o k : Nat} {f : Nat → Int32} : (r_wI M o f).1 o k = f k := by
  show (if o = o then f else M.1 o) k = f k
  rw [if_pos rfl]
theorem wI9_n {M : Mem} {o a k : Nat} {f : Nat → Int32} (h : ¬ a = o) : r_eq3 M (r_wI M o f) a k := by
  refine ⟨?_, rfl, rfl⟩
  show (if a = o then f else M.1 a) k = M.1 a k
  rw [if_neg h]
theorem wJ9_s {M : Mem} {o k : Nat} {f : Nat → Int64} : (r_wJ M o f).2.1 o k = f k := by
  show (if o = o then f else M.2.1 o) k = f k
  rw [if_pos rfl]
theorem wJ9_n {M : Mem} {o a k : Nat} {f : Nat → Int64} (h : ¬ a = o) : r_eq3 M (r_wJ M o f) a k := by
  refine ⟨rfl, ?_, rfl⟩
  show (if a = o then f else M.2.1 a) k = M.2.1 a k
  rw [if_neg h]

def nP (a o q : Nat) : Prop := (o = a ∧ q = 2) ∨ o = a + 1

theorem c_X3_copy {Q : Rq} {M : Mem} {a b : Nat} (ha : isNames a) (hb : isNames b) (hd : ∀ j, j ≤ 1 → ∀ q, ¬ nP a (b + j) q) (k : ∀ M', (∀ o q, ¬ nP a o q → r_eq3 M M' o q) → (∀ o q, M'.2.2 o q = M.2.2 o q) → M'.1 a 2 = M.1 b 2 → (∀ q, q < 12 → M'.2.1 (a + 1) q = M.2.1 (b + 1) q) → Q none GX M') : Ca 2 mt_X3_copy 0 0 [.ref a, .ref b] GX M Q := by
  refine Ca_of rfl (Nat.le_of_ble_eq_true rfl) ?_
  have rf : ∀ o q, M.2.2 o q = M.2.2 o q := fun _ _ => rfl
  have cf : ∀ o q, ¬ nP a o q → r_eq3 M M o q := fun _ _ _ => ⟨rfl, rfl, rfl⟩
  refine Ru_aload_n (pc := 0) dX3_copy_0 rfl rfl ?_
  refine Ru_aload_n (pc := 1) dX3_copy_1 rfl rfl ?_
  refine Ru_getI (pc := 2) dX3_copy_2 fl_X3_25 (shNames_0 hb) rfl ?_
  refine Ru_putI (pc := 5) rfl dX3_copy_5 fl_X3_25 (shNames_0 ha) ?_
  generalize en2 : r_sI M a 2 (M.1 b 2) = M2
  have st2 : ∀ o q, ¬ (o = a ∧ q = 2) → r_eq3 M M2 o q := fun o q h => by
    rw [← en2]
    exact ⟨r_sI_n h, rfl, rfl⟩
  have vl2 : M2.1 a 2 = (M.1 b 2) := by
    rw [← en2]
    exact r_sI_s
  have rf2 : ∀ o q, M2.2.2 o q = M.2.2 o q := fun o q => by
    rw [← en2]
    exact rf o q
  have cf2 : ∀ o q, ¬ nP a o q → r_eq3 M M2 o q := fun o q h => e3t (cf o q h) (st2 o q (by unfold nP at h; omega))
  refine Ru_aload_n (pc := 8) dX3_copy_8 rfl rfl ?_
  refine Ru_getR (pc := 9) (b + 1) dX3_copy_9 fl_X3_9 (shNames_0 hb) rfl (rfX_of (o := b) (j := 1) (shNames_0 hb) rfl) ?_
  refine Ru_iconst (pc := 12) (nI 0) dX3_copy_12 rfl ?_
  refine Ru_aload_n (pc := 13) dX3_copy_13 rfl rfl ?_
  refine Ru_getR (pc := 14) (a + 1) dX3_copy_14 fl_X3_9 (shNames_0 ha) rfl (rfX_of (o := a) (j := 1) (shNames_0 ha) rfl) ?_
  refine Ru_iconst (pc := 17) (nI 0) dX3_copy_17 rfl ?_
  refine Ru_aload_n (pc := 18) dX3_copy_18 rfl rfl ?_
  refine Ru_getR (pc := 19) (a + 1) dX3_copy_19 fl_X3_9 (shNames_0 ha) rfl (rfX_of (o := a) (j := 1) (shNames_0 ha) rfl) ?_
  refine Ru_alen (pc := 22) dX3_copy_22 (shNames_1 ha) (by decide) ?_
  refine Ru_copyJ (pc := 23) rfl dX3_copy_23 cp_X3 (shNames_1 hb) (shNames_1 ha) (by omega) (by omega) (by decide) (Nat.le_of_ble_eq_true rfl) ?_
  refine Ru_vret (pc := 26) dX3_copy_26 rfl ⟨Nat.le_refl _, Nat.le_refl _⟩ ?_
  generalize en3 : r_wJ M2 (a + 1) (va_cpy (M2.2.1 (b + 1)) (M2.2.1 (a + 1)) 0 0 12) = M3
  have st3 : ∀ o q, ¬ o = (a + 1) → r_eq3 M2 M3 o q := fun o q h => by
    rw [← en3]
    exact wJ9_n h
  have vl3 : ∀ q, q < 12 → M3.2.1 (a + 1) q = M2.2.1 (b + 1) q := fun q hq => by
    rw [← en3]
    exact wJ9_s.trans (cpy0 hq)
  have rf3 : ∀ o q, M3.2.2 o q = M.2.2 o q := fun o q => by
    rw [← en3]
    exact rf2 o q
  have cf3 : ∀ o q, ¬ nP a o q → r_eq3 M M3 o q := fun o q h => e3t (cf2 o q h) (st3 o q (by unfold nP at h; omega))
  exact k M3 cf3 rf3 ((st3 a 2 (by omega)).1.trans ((vl2).trans (cf b 2 (hd 0 (by decide) _)).1)) (fun q hq => ((vl3 q hq).trans (cf2 (b + 1) q (hd 1 (by decide) _)).2.1))

theorem c_X2_copy {Q : Rq} {M : Mem} {a b : Nat} (ha : isLaw a) (hb : isLaw b) (hd : ∀ j, j ≤ 3 → ¬ (a ≤ b + j ∧ b + j ≤ a + 3)) (k : ∀ M', (∀ o q, ¬ lQ a o q → r_eq3 M M' o q) → (∀ o q, M'.2.2 o q = M.2.2 o q) → M'.1 a 0 = M.1 b 0 → M'.1 a 4 = M.1 b 4 → M'.1 a 5 = M.1 b 5 → (∀ q, q < 8 → M'.1 (a + 1) q = M.1 (b + 1) q) → (∀ q, q < 8 → M'.1 (a + 2) q = M.1 (b + 2) q) → (∀ q, q < 300 → M'.1 (a + 3) q = M.1 (b + 3) q) → Q none GX M') : Ca 2 mt_X2_copy 0 0 [.ref a, .ref b] GX M Q := by
  refine Ca_of rfl (Nat.le_of_ble_eq_true rfl) ?_
  have rf : ∀ o q, M.2.2 o q = M.2.2 o q := fun _ _ => rfl
  have cf : ∀ o q, ¬ lQ a o q → r_eq3 M M o q := fun _ _ _ => ⟨rfl, rfl, rfl⟩
  refine Ru_aload_n (pc := 0) dX2_copy_0 rfl rfl ?_
  refine Ru_aload_n (pc := 1) dX2_copy_1 rfl rfl ?_
  refine Ru_getI (pc := 2) dX2_copy_2 fl_X2_21 (shLaw_0 hb) rfl ?_
  refine Ru_putI (pc := 5) rfl dX2_copy_5 fl_X2_21 (shLaw_0 ha) ?_
  generalize en2 : r_sI M a 0 (M.1 b 0) = M2
  have st2 : ∀ o q, ¬ (o = a ∧ q = 0) → r_eq3 M M2 o q := fun o q h => by
    rw [← en2]
    exact ⟨r_sI_n h, rfl, rfl⟩
  have vl2 : M2.1 a 0 = (M.1 b 0) := by
    rw [← en2]
    exact r_sI_s
  have rf2 : ∀ o q, M2.2.2 o q = M.2.2 o q := fun o q => by
    rw [← en2]
    exact rf o q
  have cf2 : ∀ o q, ¬ lQ a o q → r_eq3 M M2 o q := fun o q h => e3t (cf o q h) (st2 o q (by unfold lQ at h; omega))
  refine Ru_aload_n (pc := 8) dX2_copy_8 rfl rfl ?_
  refine Ru_aload_n (pc := 9) dX2_copy_9 rfl rfl ?_
  refine Ru_getI (pc := 10) dX2_copy_10 fl_X2_25 (shLaw_0 hb) rfl ?_
  refine Ru_putI (pc := 13) rfl dX2_copy_13 fl_X2_25 (shLaw_0 ha) ?_
  generalize en3 : r_sI M2 a 4 (M2.1 b 4) = M3
  have st3 : ∀ o q, ¬ (o = a ∧ q = 4) → r_eq3 M2 M3 o q := fun o q h => by
    rw [← en3]
    exact ⟨r_sI_n h, rfl, rfl⟩
  have vl3 : M3.1 a 4 = (M2.1 b 4) := by
    rw [← en3]
    exact r_sI_s
  have rf3 : ∀ o q, M3.2.2 o q = M.2.2 o q := fun o q => by
    rw [← en3]
    exact rf2 o q
  have cf3 : ∀ o q, ¬ lQ a o q → r_eq3 M M3 o q := fun o q h => e3t (cf2 o q h) (st3 o q (by unfold lQ at h; omega))
  refine Ru_aload_n (pc := 16) dX2_copy_16 rfl rfl ?_
  refine Ru_aload_n (pc := 17) dX2_copy_17 rfl rfl ?_
  refine Ru_getI (pc := 18) dX2_copy_18 fl_X2_28 (shLaw_0 hb) rfl ?_
  refine Ru_putI (pc := 21) rfl dX2_copy_21 fl_X2_28 (shLaw_0 ha) ?_
  generalize en4 : r_sI M3 a 5 (M3.1 b 5) = M4
  have st4 : ∀ o q, ¬ (o = a ∧ q = 5) → r_eq3 M3 M4 o q := fun o q h => by
    rw [← en4]
    exact ⟨r_sI_n h, rfl, rfl⟩
  have vl4 : M4.1 a 5 = (M3.1 b 5) := by
    rw [← en4]
    exact r_sI_s
  have rf4 : ∀ o q, M4.2.2 o q = M.2.2 o q := fun o q => by
    rw [← en4]
    exact rf3 o q
  have cf4 : ∀ o q, ¬ lQ a o q → r_eq3 M M4 o q := fun o q h => e3t (cf3 o q h) (st4 o q (by unfold lQ at h; omega))
  refine Ru_aload_n (pc := 24) dX2_copy_24 rfl rfl ?_
  refine Ru_getR (pc := 25) (b + 1) dX2_copy_25 fl_X2_9 (shLaw_0 hb) rfl (rfX_of (o := b) (j := 1) (shLaw_0 hb) rfl) ?_
  refine Ru_iconst (pc := 28) (nI 0) dX2_copy_28 rfl ?_
  refine Ru_aload_n (pc := 29) dX2_copy_29 rfl rfl ?_
  refine Ru_getR (pc := 30) (a + 1) dX2_copy_30 fl_X2_9 (shLaw_0 ha) rfl (rfX_of (o := a) (j := 1) (shLaw_0 ha) rfl) ?_
  refine Ru_iconst (pc := 33) (nI 0) dX2_copy_33 rfl ?_
  refine Ru_aload_n (pc := 34) dX2_copy_34 rfl rfl ?_
  refine Ru_getR (pc := 35) (a + 1) dX2_copy_35 fl_X2_9 (shLaw_0 ha) rfl (rfX_of (o := a) (j := 1) (shLaw_0 ha) rfl) ?_
  refine Ru_alen (pc := 38) dX2_copy_38 (shLaw_1 ha) (by decide) ?_
  refine Ru_copyI (pc := 39) rfl dX2_copy_39 cp_X2 (shLaw_1 hb) (shLaw_1 ha) (by omega) (by omega) (by decide) (Nat.le_of_ble_eq_true rfl) ?_
  generalize en5 : r_wI M4 (a + 1) (va_cpy (M4.1 (b + 1)) (M4.1 (a + 1)) 0 0 8) = M5
  have st5 : ∀ o q, ¬ o = (a + 1) → r_eq3 M4 M5 o q := fun o q h => by
    rw [← en5]
    exact wI9_n h
  have vl5 : ∀ q, q < 8 → M5.1 (a + 1) q = M4.1 (b + 1) q := fun q hq => by
    rw [← en5]
    exact wI9_s.trans (cpy0 hq)
  have rf5 : ∀ o q, M5.2.2 o q = M.2.2 o q := fun o q => by
    rw [← en5]
    exact rf4 o q
  have cf5 : ∀ o q, ¬ lQ a o q → r_eq3 M M5 o q := fun o q h => e3t (cf4 o q h) (st5 o q (by unfold lQ at h; omega))
  refine Ru_aload_n (pc := 42) dX2_copy_42 rfl rfl ?_
  refine Ru_getR (pc := 43) (b + 2) dX2_copy_43 fl_X2_15 (shLaw_0 hb) rfl (rfX_of (o := b) (j := 2) (shLaw_0 hb) rfl) ?_
  refine Ru_iconst (pc := 46) (nI 0) dX2_copy_46 rfl ?_
  refine Ru_aload_n (pc := 47) dX2_copy_47 rfl rfl ?_
  refine Ru_getR (pc := 48) (a + 2) dX2_copy_48 fl_X2_15 (shLaw_0 ha) rfl (rfX_of (o := a) (j := 2) (shLaw_0 ha) rfl) ?_
  refine Ru_iconst (pc := 51) (nI 0) dX2_copy_51 rfl ?_
  refine Ru_aload_n (pc := 52) dX2_copy_52 rfl rfl ?_
  refine Ru_getR (pc := 53) (a + 2) dX2_copy_53 fl_X2_15 (shLaw_0 ha) rfl (rfX_of (o := a) (j := 2) (shLaw_0 ha) rfl) ?_
  refine Ru_alen (pc := 56) dX2_copy_56 (shLaw_2 ha) (by decide) ?_
  refine Ru_copyI (pc := 57) rfl dX2_copy_57 cp_X2 (shLaw_2 hb) (shLaw_2 ha) (by omega) (by omega) (by decide) (Nat.le_of_ble_eq_true rfl) ?_
  generalize en6 : r_wI M5 (a + 2) (va_cpy (M5.1 (b + 2)) (M5.1 (a + 2)) 0 0 8) = M6
  have st6 : ∀ o q, ¬ o = (a + 2) → r_eq3 M5 M6 o q := fun o q h => by
    rw [← en6]
    exact wI9_n h
  have vl6 : ∀ q, q < 8 → M6.1 (a + 2) q = M5.1 (b + 2) q := fun q hq => by
    rw [← en6]
    exact wI9_s.trans (cpy0 hq)
  have rf6 : ∀ o q, M6.2.2 o q = M.2.2 o q := fun o q => by
    rw [← en6]
    exact rf5 o q
  have cf6 : ∀ o q, ¬ lQ a o q → r_eq3 M M6 o q := fun o q h => e3t (cf5 o q h) (st6 o q (by unfold lQ at h; omega))
  refine Ru_aload_n (pc := 60) dX2_copy_60 rfl rfl ?_
  refine Ru_getR (pc := 61) (b + 3) dX2_copy_61 fl_X2_18 (shLaw_0 hb) rfl (rfX_of (o := b) (j := 3) (shLaw_0 hb) rfl) ?_
  refine Ru_iconst (pc := 64) (nI 0) dX2_copy_64 rfl ?_
  refine Ru_aload_n (pc := 65) dX2_copy_65 rfl rfl ?_
  refine Ru_getR (pc := 66) (a + 3) dX2_copy_66 fl_X2_18 (shLaw_0 ha) rfl (rfX_of (o := a) (j := 3) (shLaw_0 ha) rfl) ?_
  refine Ru_iconst (pc := 69) (nI 0) dX2_copy_69 rfl ?_
  refine Ru_aload_n (pc := 70) dX2_copy_70 rfl rfl ?_
  refine Ru_getR (pc := 71) (a + 3) dX2_copy_71 fl_X2_18 (shLaw_0 ha) rfl (rfX_of (o := a) (j := 3) (shLaw_0 ha) rfl) ?_
  refine Ru_alen (pc := 74) dX2_copy_74 (shLaw_3 ha) (by decide) ?_
  refine Ru_copyI (pc := 75) rfl dX2_copy_75 cp_X2 (shLaw_3 hb) (shLaw_3 ha) (by omega) (by omega) (by decide) (Nat.le_of_ble_eq_true rfl) ?_
  refine Ru_vret (pc := 78) dX2_copy_78 rfl ⟨Nat.le_refl _, Nat.le_refl _⟩ ?_
  generalize en7 : r_wI M6 (a + 3) (va_cpy (M6.1 (b + 3)) (M6.1 (a + 3)) 0 0 300) = M7
  have st7 : ∀ o q, ¬ o = (a + 3) → r_eq3 M6 M7 o q := fun o q h => by
    rw [← en7]
    exact wI9_n h
  have vl7 : ∀ q, q < 300 → M7.1 (a + 3) q = M6.1 (b + 3) q := fun q hq => by
    rw [← en7]
    exact wI9_s.trans (cpy0 hq)
  have rf7 : ∀ o q, M7.2.2 o q = M.2.2 o q := fun o q => by
    rw [← en7]
    exact rf6 o q
  have cf7 : ∀ o q, ¬ lQ a o q → r_eq3 M M7 o q := fun o q h => e3t (cf6 o q h) (st7 o q (by unfold lQ at h; omega))
  exact k M7 cf7 rf7 ((e3t (e3t (e3t (e3t (st3 a 0 (by omega)) (st4 a 0 (by omega))) (st5 a 0 (by omega))) (st6 a 0 (by omega))) (st7 a 0 (by omega))).1.trans ((vl2).trans (cf b 0 (hd 0 (by decide))).1)) ((e3t (e3t (e3t (st4 a 4 (by omega)) (st5 a 4 (by omega))) (st6 a 4 (by omega))) (st7 a 4 (by omega))).1.trans ((vl3).trans (cf2 b 4 (hd 0 (by decide))).1)) ((e3t (e3t (st5 a 5 (by omega)) (st6 a 5 (by omega))) (st7 a 5 (by omega))).1.trans ((vl4).trans (cf3 b 5 (hd 0 (by decide))).1)) (fun q hq => ((e3t (st6 (a + 1) q (by omega)) (st7 (a + 1) q (by omega))).1.trans ((vl5 q hq).trans (cf4 (b + 1) q (hd 1 (by decide))).1))) (fun q hq => ((st7 (a + 2) q (by omega)).1.trans ((vl6 q hq).trans (cf5 (b + 2) q (hd 2 (by decide))).1))) (fun q hq => ((vl7 q hq).trans (cf6 (b + 3) q (hd 3 (by decide))).1))

def qW9 (a o q : Nat) : Prop := a ≤ o ∧ o ≤ a + 4

theorem c_X5_copy {Q : Rq} {M : Mem} {a b : Nat} (ha : isPlan a) (hb : isPlan b) (h01 : M.1 b 0 = 0 ∨ M.1 b 0 = 1) (hd : ∀ j, j ≤ 4 → ¬ (a ≤ b + j ∧ b + j ≤ a + 4)) (k : ∀ M', (∀ o q, ¬ qW9 a o q → r_eq3 M M' o q) → (∀ o q, M'.2.2 o q = M.2.2 o q) → M'.1 a 0 = M.1 b 0 → M'.1 a 1 = M.1 b 1 → (∀ q, q < 24 → M'.1 (a + 1) q = M.1 (b + 1) q) → (∀ q, q < 24 → M'.1 (a + 2) q = M.1 (b + 2) q) → (∀ q, q < 24 → M'.1 (a + 3) q = M.1 (b + 3) q) → (∀ q, q < 24 → M'.1 (a + 4) q = M.1 (b + 4) q) → Q none GX M') : Ca 2 mt_X5_copy 0 0 [.ref a, .ref b] GX M Q := by
  refine Ca_of rfl (Nat.le_of_ble_eq_true rfl) ?_
  have rf : ∀ o q, M.2.2 o q = M.2.2 o q := fun _ _ => rfl
  have cf : ∀ o q, ¬ qW9 a o q → r_eq3 M M o q := fun _ _ _ => ⟨rfl, rfl, rfl⟩
  refine Ru_aload_n (pc := 0) dX5_copy_0 rfl rfl ?_
  refine Ru_aload_n (pc := 1) dX5_copy_1 rfl rfl ?_
  refine Ru_getI (pc := 2) dX5_copy_2 fl_X5_24 (shPlan_0 hb) rfl ?_
  refine Ru_putZ (pc := 5) rfl dX5_copy_5 fl_X5_24 (shPlan_0 ha) h01 ?_
  generalize en2 : r_sI M a 0 (M.1 b 0) = M2
  have st2 : ∀ o q, ¬ (o = a ∧ q = 0) → r_eq3 M M2 o q := fun o q h => by
    rw [← en2]
    exact ⟨r_sI_n h, rfl, rfl⟩
  have vl2 : M2.1 a 0 = (M.1 b 0) := by
    rw [← en2]
    exact r_sI_s
  have rf2 : ∀ o q, M2.2.2 o q = M.2.2 o q := fun o q => by
    rw [← en2]
    exact rf o q
  have cf2 : ∀ o q, ¬ qW9 a o q → r_eq3 M M2 o q := fun o q h => e3t (cf o q h) (st2 o q (by unfold qW9 at h; omega))
  refine Ru_aload_n (pc := 8) dX5_copy_8 rfl rfl ?_
  refine Ru_aload_n (pc := 9) dX5_copy_9 rfl rfl ?_
  refine Ru_getI (pc := 10) dX5_copy_10 fl_X5_28 (shPlan_0 hb) rfl ?_
  refine Ru_putI (pc := 13) rfl dX5_copy_13 fl_X5_28 (shPlan_0 ha) ?_
  generalize en3 : r_sI M2 a 1 (M2.1 b 1) = M3
  have st3 : ∀ o q, ¬ (o = a ∧ q = 1) → r_eq3 M2 M3 o q := fun o q h => by
    rw [← en3]
    exact ⟨r_sI_n h, rfl, rfl⟩
  have vl3 : M3.1 a 1 = (M2.1 b 1) := by
    rw [← en3]
    exact r_sI_s
  have rf3 : ∀ o q, M3.2.2 o q = M.2.2 o q := fun o q => by
    rw [← en3]
    exact rf2 o q
  have cf3 : ∀ o q, ¬ qW9 a o q → r_eq3 M M3 o q := fun o q h => e3t (cf2 o q h) (st3 o q (by unfold qW9 at h; omega))
  refine Ru_aload_n (pc := 16) dX5_copy_16 rfl rfl ?_
  refine Ru_getR (pc := 17) (b + 1) dX5_copy_17 fl_X5_9 (shPlan_0 hb) rfl (rfX_of (o := b) (j := 1) (shPlan_0 hb) rfl) ?_
  refine Ru_iconst (pc := 20) (nI 0) dX5_copy_20 rfl ?_
  refine Ru_aload_n (pc := 21) dX5_copy_21 rfl rfl ?_
  refine Ru_getR (pc := 22) (a + 1) dX5_copy_22 fl_X5_9 (shPlan_0 ha) rfl (rfX_of (o := a) (j := 1) (shPlan_0 ha) rfl) ?_
  refine Ru_iconst (pc := 25) (nI 0) dX5_copy_25 rfl ?_
  refine Ru_aload_n (pc := 26) dX5_copy_26 rfl rfl ?_
  refine Ru_getR (pc := 27) (a + 1) dX5_copy_27 fl_X5_9 (shPlan_0 ha) rfl (rfX_of (o := a) (j := 1) (shPlan_0 ha) rfl) ?_
  refine Ru_alen (pc := 30) dX5_copy_30 (shPlan_1 ha) (by decide) ?_
  refine Ru_copyI (pc := 31) rfl dX5_copy_31 cp_X5 (shPlan_1 hb) (shPlan_1 ha) (by omega) (by omega) (by decide) (Nat.le_of_ble_eq_true rfl) ?_
  generalize en4 : r_wI M3 (a + 1) (va_cpy (M3.1 (b + 1)) (M3.1 (a + 1)) 0 0 24) = M4
  have st4 : ∀ o q, ¬ o = (a + 1) → r_eq3 M3 M4 o q := fun o q h => by
    rw [← en4]
    exact wI9_n h
  have vl4 : ∀ q, q < 24 → M4.1 (a + 1) q = M3.1 (b + 1) q := fun q hq => by
    rw [← en4]
    exact wI9_s.trans (cpy0 hq)
  have rf4 : ∀ o q, M4.2.2 o q = M.2.2 o q := fun o q => by
    rw [← en4]
    exact rf3 o q
  have cf4 : ∀ o q, ¬ qW9 a o q → r_eq3 M M4 o q := fun o q h => e3t (cf3 o q h) (st4 o q (by unfold qW9 at h; omega))
  refine Ru_aload_n (pc := 34) dX5_copy_34 rfl rfl ?_
  refine Ru_getR (pc := 35) (b + 2) dX5_copy_35 fl_X5_15 (shPlan_0 hb) rfl (rfX_of (o := b) (j := 2) (shPlan_0 hb) rfl) ?_
  refine Ru_iconst (pc := 38) (nI 0) dX5_copy_38 rfl ?_
  refine Ru_aload_n (pc := 39) dX5_copy_39 rfl rfl ?_
  refine Ru_getR (pc := 40) (a + 2) dX5_copy_40 fl_X5_15 (shPlan_0 ha) rfl (rfX_of (o := a) (j := 2) (shPlan_0 ha) rfl) ?_
  refine Ru_iconst (pc := 43) (nI 0) dX5_copy_43 rfl ?_
  refine Ru_aload_n (pc := 44) dX5_copy_44 rfl rfl ?_
  refine Ru_getR (pc := 45) (a + 2) dX5_copy_45 fl_X5_15 (shPlan_0 ha) rfl (rfX_of (o := a) (j := 2) (shPlan_0 ha) rfl) ?_
  refine Ru_alen (pc := 48) dX5_copy_48 (shPlan_2 ha) (by decide) ?_
  refine Ru_copyI (pc := 49) rfl dX5_copy_49 cp_X5 (shPlan_2 hb) (shPlan_2 ha) (by omega) (by omega) (by decide) (Nat.le_of_ble_eq_true rfl) ?_
  generalize en5 : r_wI M4 (a + 2) (va_cpy (M4.1 (b + 2)) (M4.1 (a + 2)) 0 0 24) = M5
  have st5 : ∀ o q, ¬ o = (a + 2) → r_eq3 M4 M5 o q := fun o q h => by
    rw [← en5]
    exact wI9_n h
  have vl5 : ∀ q, q < 24 → M5.1 (a + 2) q = M4.1 (b + 2) q := fun q hq => by
    rw [← en5]
    exact wI9_s.trans (cpy0 hq)
  have rf5 : ∀ o q, M5.2.2 o q = M.2.2 o q := fun o q => by
    rw [← en5]
    exact rf4 o q
  have cf5 : ∀ o q, ¬ qW9 a o q → r_eq3 M M5 o q := fun o q h => e3t (cf4 o q h) (st5 o q (by unfold qW9 at h; omega))
  refine Ru_aload_n (pc := 52) dX5_copy_52 rfl rfl ?_
  refine Ru_getR (pc := 53) (b + 3) dX5_copy_53 fl_X5_18 (shPlan_0 hb) rfl (rfX_of (o := b) (j := 3) (shPlan_0 hb) rfl) ?_
  refine Ru_iconst (pc := 56) (nI 0) dX5_copy_56 rfl ?_
  refine Ru_aload_n (pc := 57) dX5_copy_57 rfl rfl ?_
  refine Ru_getR (pc := 58) (a + 3) dX5_copy_58 fl_X5_18 (shPlan_0 ha) rfl (rfX_of (o := a) (j := 3) (shPlan_0 ha) rfl) ?_
  refine Ru_iconst (pc := 61) (nI 0) dX5_copy_61 rfl ?_
  refine Ru_aload_n (pc := 62) dX5_copy_62 rfl rfl ?_
  refine Ru_getR (pc := 63) (a + 3) dX5_copy_63 fl_X5_18 (shPlan_0 ha) rfl (rfX_of (o := a) (j := 3) (shPlan_0 ha) rfl) ?_
  refine Ru_alen (pc := 66) dX5_copy_66 (shPlan_3 ha) (by decide) ?_
  refine Ru_copyI (pc := 67) rfl dX5_copy_67 cp_X5 (shPlan_3 hb) (shPlan_3 ha) (by omega) (by omega) (by decide) (Nat.le_of_ble_eq_true rfl) ?_
  generalize en6 : r_wI M5 (a + 3) (va_cpy (M5.1 (b + 3)) (M5.1 (a + 3)) 0 0 24) = M6
  have st6 : ∀ o q, ¬ o = (a + 3) → r_eq3 M5 M6 o q := fun o q h => by
    rw [← en6]
    exact wI9_n h
  have vl6 : ∀ q, q < 24 → M6.1 (a + 3) q = M5.1 (b + 3) q := fun q hq => by
    rw [← en6]
    exact wI9_s.trans (cpy0 hq)
  have rf6 : ∀ o q, M6.2.2 o q = M.2.2 o q := fun o q => by
    rw [← en6]
    exact rf5 o q
  have cf6 : ∀ o q, ¬ qW9 a o q → r_eq3 M M6 o q := fun o q h => e3t (cf5 o q h) (st6 o q (by unfold qW9 at h; omega))
  refine Ru_aload_n (pc := 70) dX5_copy_70 rfl rfl ?_
  refine Ru_getR (pc := 71) (b + 4) dX5_copy_71 fl_X5_21 (shPlan_0 hb) rfl (rfX_of (o := b) (j := 4) (shPlan_0 hb) rfl) ?_
  refine Ru_iconst (pc := 74) (nI 0) dX5_copy_74 rfl ?_
  refine Ru_aload_n (pc := 75) dX5_copy_75 rfl rfl ?_
  refine Ru_getR (pc := 76) (a + 4) dX5_copy_76 fl_X5_21 (shPlan_0 ha) rfl (rfX_of (o := a) (j := 4) (shPlan_0 ha) rfl) ?_
  refine Ru_iconst (pc := 79) (nI 0) dX5_copy_79 rfl ?_
  refine Ru_aload_n (pc := 80) dX5_copy_80 rfl rfl ?_
  refine Ru_getR (pc := 81) (a + 4) dX5_copy_81 fl_X5_21 (shPlan_0 ha) rfl (rfX_of (o := a) (j := 4) (shPlan_0 ha) rfl) ?_
  refine Ru_alen (pc := 84) dX5_copy_84 (shPlan_4 ha) (by decide) ?_
  refine Ru_copyI (pc := 85) rfl dX5_copy_85 cp_X5 (shPlan_4 hb) (shPlan_4 ha) (by omega) (by omega) (by decide) (Nat.le_of_ble_eq_true rfl) ?_
  refine Ru_vret (pc := 88) dX5_copy_88 rfl ⟨Nat.le_refl _, Nat.le_refl _⟩ ?_
  generalize en7 : r_wI M6 (a + 4) (va_cpy (M6.1 (b + 4)) (M6.1 (a + 4)) 0 0 24) = M7
  have st7 : ∀ o q, ¬ o = (a + 4) → r_eq3 M6 M7 o q := fun o q h => by
    rw [← en7]
    exact wI9_n h
  have vl7 : ∀ q, q < 24 → M7.1 (a + 4) q = M6.1 (b + 4) q := fun q hq => by
    rw [← en7]
    exact wI9_s.trans (cpy0 hq)
  have rf7 : ∀ o q, M7.2.2 o q = M.2.2 o q := fun o q => by
    rw [← en7]
    exact rf6 o q
  have cf7 : ∀ o q, ¬ qW9 a o q → r_eq3 M M7 o q := fun o q h => e3t (cf6 o q h) (st7 o q (by unfold qW9 at h; omega))
  exact k M7 cf7 rf7 ((e3t (e3t (e3t (e3t (st3 a 0 (by omega)) (st4 a 0 (by omega))) (st5 a 0 (by omega))) (st6 a 0 (by omega))) (st7 a 0 (by omega))).1.trans ((vl2).trans (cf b 0 (hd 0 (by decide))).1)) ((e3t (e3t (e3t (st4 a 1 (by omega)) (st5 a 1 (by omega))) (st6 a 1 (by omega))) (st7 a 1 (by omega))).1.trans ((vl3).trans (cf2 b 1 (hd 0 (by decide))).1)) (fun q hq => ((e3t (e3t (st5 (a + 1) q (by omega)) (st6 (a + 1) q (by omega))) (st7 (a + 1) q (by omega))).1.trans ((vl4 q hq).trans (cf3 (b + 1) q (hd 1 (by decide))).1))) (fun q hq => ((e3t (st6 (a + 2) q (by omega)) (st7 (a + 2) q (by omega))).1.trans ((vl5 q hq).trans (cf4 (b + 2) q (hd 2 (by decide))).1))) (fun q hq => ((st7 (a + 3) q (by omega)).1.trans ((vl6 q hq).trans (cf5 (b + 3) q (hd 3 (by decide))).1))) (fun q hq => ((vl7 q hq).trans (cf6 (b + 4) q (hd 4 (by decide))).1))
