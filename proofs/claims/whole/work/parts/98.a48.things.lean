-- READING: the developers' things
theorem c_X9_buildName1 {Q : Rq} {M : Mem} {T : Tx} {cnt u : Nat} {s : Ps} {x : St9} (tw : Tw T) (hu : isTown u) (bd : X_bd u x M) (wf : Wf x.1) (hr : X_rd T cnt s M) (h0 : s.2 = 0) {o c lim b : Nat} (hoc : nK3 u o c lim b) (hP : 128 ≤ tK T s.1) (k : ∀ M', r_ow (fun o' k' => (o' = o ∧ k' = 2) ∨ (o' = o + 1 ∧ k' = x.1 c)) M M' → X_rd T cnt (sNew T c lim x s) M' → ((sNew T c lim x s).2 = 0 → M'.1 o 2 = nI (x.1 c + 1) ∧ M'.2.1 (o + 1) (x.1 c) = nJ (cd 27 (tL T (s.1 + 1))) ∧ tK T (s.1 + 1) = 3 ∧ x.1 c < lim) → Q (some (.int (r_b (decide ((sNew T c lim x s).2 = 0))))) GX M') : Ca 2 mt_X9_buildName 0 0 [.ref u, .ref 40, .ref o] GX M Q := by
  refine c_X9_buildName tw hu bd wf hr h0 hoc hP (fun M' f r n => ?_) (fun M' f a b r t l e => ?_)
  · exact r_qe (r_b_f (decide_eq_false n)) (k M' (r_ow.fx f) r (fun z => absurd z n))
  · rw [e] at k
    exact r_qe (r_b_t (decide_eq_true rfl)) (k M' f r (fun _ => ⟨a, b, t, l⟩))
theorem sIf_y {T : Tx} {w : Nat} {s : Ps} (h0 : s.2 = 0) (h : tK T s.1 = w) : sIf T w s = (s.1 + 1, 0) := if_pos ⟨h0, h⟩
theorem sIf_m {T : Tx} {w : Nat} {s : Ps} (h : ¬ tK T s.1 = w) : sIf T w s = s := if_neg (fun z => h z.2)
theorem bIf_y {T : Tx} {w : Nat} {s : Ps} (h0 : s.2 = 0) (h : tK T s.1 = w) : bIf T w s = 1 := if_pos ⟨h0, h⟩
theorem bIf_m {T : Tx} {w : Nat} {s : Ps} (h : ¬ tK T s.1 = w) : bIf T w s = 0 := if_neg (fun z => h z.2)
theorem bIf_le (T : Tx) (w : Nat) (s : Ps) : bIf T w s ≤ 1 := by
  unfold bIf
  split <;> omega
theorem tK_rg (T : Tx) (i : Nat) : tK T i < 2147483648 := by
  have h : kK T (tA T i) = tK T i := rfl
  have := kK_b T (tA T i)
  omega
/-- the end of a part -/
def prE (T : Tx) (S : Ps) : Ps := sMust T (decide (tK T S.1 = 59)) S
def inT (u o k : Nat) : Prop := u ≤ o ∧ o ≤ u + 18 ∧ ¬ (o = u ∧ 19 ≤ k)
theorem thX_c {T : Tx} {x : St9} {s : Ps} (wf : Wf x.1) (h : x.1 0 < 8) : (thX T x s).1 0 = x.1 0 + 1 ∧ (∀ i, i < 8 → (thX T x s).1 (5 + i) = if i = x.1 0 then bIf T 129 (sNew T 0 8 x s) else x.1 (5 + i)) ∧ (∀ i, i < 8 → (thX T x s).1 (13 + i) = if i = x.1 0 then bIf T 130 (sIf T 129 (sNew T 0 8 x s)) else x.1 (13 + i)) ∧ ∀ j, ¬ j = 0 → (j < 5 ∨ 29 ≤ j) → (thX T x s).1 j = x.1 j := by
  refine ⟨rfl, fun i hi => ?_, fun i hi => ?_, fun j h1 h2 => ?_⟩
  · unfold thX
    dsimp only
    rw [if_neg (by omega)]
    by_cases e : i = x.1 0
    · rw [if_pos (by omega), if_pos e]
    · rw [if_neg (by omega), if_neg (by omega), if_neg (by omega), if_neg e]
  · unfold thX
    dsimp only
    rw [if_neg (by omega), if_neg (by omega)]
    by_cases e : i = x.1 0
    · rw [if_pos (by omega), if_pos e]
    · rw [if_neg (by omega), if_neg (by omega), if_neg e]
  · unfold thX
    dsimp only
    rw [if_neg (by omega), if_neg (by omega), if_neg (by omega), if_neg (by omega)]

theorem c_X9_buildThing {Q : Rq} {M : Mem} {T : Tx} {cnt u : Nat} {s : Ps} {x : St9} (tw : Tw T) (hu : isTown u) (bd : X_bd u x M) (wf : Wf x.1) (hr : X_rd T cnt s M) (h0 : s.2 = 0) (hP : tK T s.1 = 128) (k : ∀ M', r_ow (inT u) M M' → X_lm u M' → X_rd T cnt (prE T (thS T x s)) M' → ((prE T (thS T x s)).2 = 0 → X_bd u (thX T x s) M') → Q (some (.int (r_b (decide ((prE T (thS T x s)).2 = 0))))) GX M') : Ca 3 mt_X9_buildThing 0 0 [.ref u, .ref 40] GX M Q := by
  refine Ca_of rfl (Nat.le_of_ble_eq_true rfl) ?_
  have hP : 128 ≤ tK T s.1 := by omega
  have hT : u = 3 ∨ u = 83 ∨ u = 111 ∨ u = 139 ∨ u = 167 := hu
  have hx := wf.1
  have em : (-1 : Int32).toInt = -1 := rfl
  refine Ru_iconst (pc := 0) (nI 1) dX9_buildThing_0 rfl ?_
  refine Ru_aload_n (pc := 1) dX9_buildThing_1 rfl rfl ?_
  refine Ru_getR (pc := 2) (u + 1) dX9_buildThing_2 fl_X9_14 (shTown_0 hu) rfl (rfX_of (o := u) (j := 1) (shTown_0 hu) rfl) ?_
  refine Ru_getI (pc := 5) dX9_buildThing_5 fl_X9_93 (shNames_0 (isNames_t hu).1) rfl ?_
  refine Ru_top bd.2.1.1.1 ?_
  refine Ru_ishl1N (pc := 8) dX9_buildThing_8 (by omega) ?_
  refine Ru_istore_n (pc := 9) dX9_buildThing_9 rfl rfl (by decide) ?_
  refine Ru_aload_n (pc := 10) dX9_buildThing_10 rfl rfl ?_
  refine Ru_aload_n (pc := 11) dX9_buildThing_11 rfl rfl ?_
  refine Ru_aload_n (pc := 12) dX9_buildThing_12 rfl rfl ?_
  refine Ru_getR (pc := 13) (u + 1) dX9_buildThing_13 fl_X9_14 (shTown_0 hu) rfl (rfX_of (o := u) (j := 1) (shTown_0 hu) rfl) ?_
  refine Ru_cv2 (pc := 16) dX9_buildThing_16 mv_X9_127 (shTown_0 hu) (by decide) (Nat.le_of_ble_eq_true rfl) (c_X9_buildName1 tw hu bd wf hr h0 (Or.inl ⟨rfl, rfl, rfl, rfl⟩) hP (fun M2 ow2 (hr2 : X_rd T cnt (sNew T 0 8 x s) M2) cl2 => ?_)) 
  have st2 : ∀ o k, ¬ (o = 40 ∧ 6 ≤ k ∧ k ≤ 8) → ¬ (o = (u + 1) ∧ k = 2) → ¬ (o = (u + 1) + 1 ∧ k = x.1 0) → r_eq3 M M2 o k := fun o k h1 h2 h3 => ow2 o k h1 (fun z => z.elim h2 h3)
  refine Ru_if_neB (pc := 19) 24 dX9_buildThing_19 (by decide) (fun h1 => ?_) (fun h1 => ?_)
  · replace h1 := of_decide_eq_true h1
    have hz : (sNew T 0 8 x s).2 = 0 := h1
    have cl2 := cl2 hz
    refine Ru_aload_n (pc := 24) dX9_buildThing_24 rfl rfl ?_
    refine Ru_cv0 (pc := 25) dX9_buildThing_25 mv_X9_80 rfl (by decide) (Nat.le_of_ble_eq_true rfl) (c_X8_kind (s := (sNew T 0 8 x s)) tw hr2 (by assumption) ?_) 
    refine Ru_sipush (pc := 28) (nI 129) dX9_buildThing_28 rfl ?_
    refine Ru_icmp_neN (pc := 31) 48 dX9_buildThing_31 (by decide) ⟨tK_rg _ _, by decide⟩ (fun h2 => ?_) (fun h2 => ?_)
    · refine Ru_aload_n (pc := 48) dX9_buildThing_48 rfl rfl ?_
      refine Ru_cv0 (pc := 49) dX9_buildThing_49 mv_X9_80 rfl (by decide) (Nat.le_of_ble_eq_true rfl) (c_X8_kind (s := (sNew T 0 8 x s)) tw hr2 (by assumption) ?_) 
      refine Ru_sipush (pc := 52) (nI 130) dX9_buildThing_52 rfl ?_
      refine Ru_icmp_neN (pc := 55) 72 dX9_buildThing_55 (by decide) ⟨tK_rg _ _, by decide⟩ (fun h3 => ?_) (fun h3 => ?_)
      · refine Ru_aload_n (pc := 72) dX9_buildThing_72 rfl rfl ?_
        refine Ru_bipush (pc := 73) (nI 59) dX9_buildThing_73 rfl ?_
        refine Ru_cv1 (pc := 75) dX9_buildThing_75 mv_X9_134 rfl (by decide) (Nat.le_of_ble_eq_true rfl) (c_X8_expect (s := (sNew T 0 8 x s)) (w := 59) tw hr2 (by assumption) (by decide) (fun M3 gx3 (hr3 : X_rd T cnt (sMust T (decide (tK T (sNew T 0 8 x s).1 = 59)) (sNew T 0 8 x s)) M3) => ?_)) 
        have st3 : ∀ o k, ¬ (o = 40 ∧ 6 ≤ k ∧ k ≤ 8) → r_eq3 M2 M3 o k := fun o k h => r_ow.fx (P := fun _ _ => False) (gx3.mono rfl) o k h (fun z => z)
        refine Ru_zret (pc := 78) dX9_buildThing_78 rfl ⟨Nat.le_refl _, Nat.le_refl _⟩ (r_b_01 _) ?_
        have oww : r_ow (inT u) M M3 := fun o k h1 h2 => by
          have h2' : ¬ (u ≤ o ∧ o ≤ u + 18 ∧ ¬ (o = u ∧ 19 ≤ k)) := h2
          exact (e3t (st2 o k (by omega) (by omega) (by omega)) (st3 o k (by omega)))
        have lmm : X_lm u M3 := ⟨((e3t (st2 (u + 1) 0 (by omega) (by omega) (by omega)) (st3 (u + 1) 0 (by omega))).1.trans bd.1.1), ((e3t (st2 (u + 3) 0 (by omega) (by omega) (by omega)) (st3 (u + 3) 0 (by omega))).1.trans bd.1.2.1), ((e3t (st2 (u + 10) 0 (by omega) (by omega) (by omega)) (st3 (u + 10) 0 (by omega))).1.trans bd.1.2.2)⟩
        have e1 : sIf T 129 (sNew T 0 8 x s) = (sNew T 0 8 x s) := sIf_m (by assumption)
        have b1 : bIf T 129 (sNew T 0 8 x s) = 0 := bIf_m (by assumption)
        have e2 : thS T x s = (sNew T 0 8 x s) := by
          unfold thS
          rw [e1]
          exact sIf_m (by assumption)
        have b2 : bIf T 130 (sIf T 129 (sNew T 0 8 x s)) = 0 := by
          rw [e1]
          exact bIf_m (by assumption)
        have eS : prE T (thS T x s) = (sMust T (decide (tK T (sNew T 0 8 x s).1 = 59)) (sNew T 0 8 x s)) := by
          unfold prE
          rw [e2]
        have bdn : X_bd u (thX T x s) M3 := by
          have tc := thX_c (T := T) (s := s) wf cl2.2.2.2
          have tv := tL_v tw (i := s.1 + 1) (Or.inl cl2.2.2.1)
          refine X_bd_th (M := M) (l := tL T (s.1 + 1)) (w := 0) (e := 0) bd wf cl2.2.2.2 ⟨tv.1, tv.2.1⟩ (by decide) (by decide) tc.1 (fun i hi => ?_) (fun i hi => ?_) tc.2.2.2 (fun o k h1 h2 h3 h4 h5 => ?_) ?_ ?_ ?_ ?_
          · exact (tc.2.1 i hi).trans (by rw [b1])
          · exact (tc.2.2.1 i hi).trans (by rw [b2])
          · exact (e3t (st2 o k (by omega) (by omega) (by omega)) (st3 o k (by omega)))
          · exact (st3 (u + 1) 2 (by omega)).1.trans cl2.1
          · exact (st3 (u + 1 + 1) (x.1 0) (by omega)).2.1.trans cl2.2.1
          · exact ((e3t (st2 u 1 (by omega) (by omega) (by omega)) (st3 u 1 (by omega))).1.trans bd.2.2.2.1.1)
          · exact ((e3t (st2 u 2 (by omega) (by omega) (by omega)) (st3 u 2 (by omega))).1.trans bd.2.2.2.1.2.1)
        rw [eS] at k
        exact k M3 oww lmm hr3 (fun _ => bdn)
      · refine Ru_aload_n (pc := 58) dX9_buildThing_58 rfl rfl ?_
        refine Ru_dup (pc := 59) dX9_buildThing_59 rfl ?_
        refine Ru_getI (pc := 60) dX9_buildThing_60 fl_X9_100 (shTown_0 hu) rfl ?_
        refine Ru_top ((st2 u 2 (by omega) (by omega) (by omega)).1.trans bd.2.2.2.1.2.1) ?_
        refine Ru_iload_n (pc := 63) dX9_buildThing_63 rfl rfl ?_
        refine Ru_iorN (pc := 64) dX9_buildThing_64 ?_
        refine Ru_putI (pc := 65) rfl dX9_buildThing_65 fl_X9_100 (shTown_0 hu) ?_
        generalize en3 : r_sI M2 u 2 (nI ((bt (fun i => x.1 (13 + i)) 8) ||| (2 ^ (x.1 0)))) = M3
        have st3 : ∀ o k, ¬ (o = u ∧ k = 2) → r_eq3 M2 M3 o k := fun o k h => by
          rw [← en3]
          exact ⟨r_sI_n h, rfl, rfl⟩
        have vl3 : M3.1 u 2 = (nI ((bt (fun i => x.1 (13 + i)) 8) ||| (2 ^ (x.1 0)))) := by
          rw [← en3]
          exact r_sI_s
        have hr3 : X_rd T cnt (sNew T 0 8 x s) M3 := X_rd_eq (fun k => st3 40 k (by omega)) (fun o k h1 h2 => st3 o k (by omega)) hr2
        refine Ru_aload_n (pc := 68) dX9_buildThing_68 rfl rfl ?_
        refine Ru_cv0 (pc := 69) dX9_buildThing_69 mv_X9_131 rfl (by decide) (Nat.le_of_ble_eq_true rfl) (c_X8_next (s := (sNew T 0 8 x s)) tw hr3 (by assumption) (by show ¬ tK T ((sNew T 0 8 x s).1) = 0; omega) (fun M4 gx4 (hr4 : X_rd T cnt ((sNew T 0 8 x s).1 + 1, 0) M4) => ?_)) 
        have st4 : ∀ o k, ¬ (o = 40 ∧ 6 ≤ k ∧ k ≤ 8) → r_eq3 M3 M4 o k := fun o k h => r_ow.fx (P := fun _ _ => False) (gx4.mono rfl) o k h (fun z => z)
        refine Ru_aload_n (pc := 72) dX9_buildThing_72 rfl rfl ?_
        refine Ru_bipush (pc := 73) (nI 59) dX9_buildThing_73 rfl ?_
        refine Ru_cv1 (pc := 75) dX9_buildThing_75 mv_X9_134 rfl (by decide) (Nat.le_of_ble_eq_true rfl) (c_X8_expect (s := ((sNew T 0 8 x s).1 + 1, 0)) (w := 59) tw hr4 rfl (by decide) (fun M5 gx5 (hr5 : X_rd T cnt (sMust T (decide (tK T ((sNew T 0 8 x s).1 + 1) = 59)) ((sNew T 0 8 x s).1 + 1, 0)) M5) => ?_)) 
        have st5 : ∀ o k, ¬ (o = 40 ∧ 6 ≤ k ∧ k ≤ 8) → r_eq3 M4 M5 o k := fun o k h => r_ow.fx (P := fun _ _ => False) (gx5.mono rfl) o k h (fun z => z)
        refine Ru_zret (pc := 78) dX9_buildThing_78 rfl ⟨Nat.le_refl _, Nat.le_refl _⟩ (r_b_01 _) ?_
        have oww : r_ow (inT u) M M5 := fun o k h1 h2 => by
          have h2' : ¬ (u ≤ o ∧ o ≤ u + 18 ∧ ¬ (o = u ∧ 19 ≤ k)) := h2
          exact (e3t (e3t (e3t (st2 o k (by omega) (by omega) (by omega)) (st3 o k (by omega))) (st4 o k (by omega))) (st5 o k (by omega)))
        have lmm : X_lm u M5 := ⟨((e3t (e3t (e3t (st2 (u + 1) 0 (by omega) (by omega) (by omega)) (st3 (u + 1) 0 (by omega))) (st4 (u + 1) 0 (by omega))) (st5 (u + 1) 0 (by omega))).1.trans bd.1.1), ((e3t (e3t (e3t (st2 (u + 3) 0 (by omega) (by omega) (by omega)) (st3 (u + 3) 0 (by omega))) (st4 (u + 3) 0 (by omega))) (st5 (u + 3) 0 (by omega))).1.trans bd.1.2.1), ((e3t (e3t (e3t (st2 (u + 10) 0 (by omega) (by omega) (by omega)) (st3 (u + 10) 0 (by omega))) (st4 (u + 10) 0 (by omega))) (st5 (u + 10) 0 (by omega))).1.trans bd.1.2.2)⟩
        have e1 : sIf T 129 (sNew T 0 8 x s) = (sNew T 0 8 x s) := sIf_m (by assumption)
        have b1 : bIf T 129 (sNew T 0 8 x s) = 0 := bIf_m (by assumption)
        have e2 : thS T x s = ((sNew T 0 8 x s).1 + 1, 0) := by
          unfold thS
          rw [e1]
          exact sIf_y hz (by assumption)
        have b2 : bIf T 130 (sIf T 129 (sNew T 0 8 x s)) = 1 := by
          rw [e1]
          exact bIf_y hz (by assumption)
        have eS : prE T (thS T x s) = (sMust T (decide (tK T ((sNew T 0 8 x s).1 + 1) = 59)) ((sNew T 0 8 x s).1 + 1, 0)) := by
          unfold prE
          rw [e2]
        have bdn : X_bd u (thX T x s) M5 := by
          have tc := thX_c (T := T) (s := s) wf cl2.2.2.2
          have tv := tL_v tw (i := s.1 + 1) (Or.inl cl2.2.2.1)
          refine X_bd_th (M := M) (l := tL T (s.1 + 1)) (w := 0) (e := 1) bd wf cl2.2.2.2 ⟨tv.1, tv.2.1⟩ (by decide) (by decide) tc.1 (fun i hi => ?_) (fun i hi => ?_) tc.2.2.2 (fun o k h1 h2 h3 h4 h5 => ?_) ?_ ?_ ?_ ?_
          · exact (tc.2.1 i hi).trans (by rw [b1])
          · exact (tc.2.2.1 i hi).trans (by rw [b2])
          · exact (e3t (e3t (e3t (st2 o k (by omega) (by omega) (by omega)) (st3 o k (by omega))) (st4 o k (by omega))) (st5 o k (by omega)))
          · exact (e3t (e3t (st3 (u + 1) 2 (by omega)) (st4 (u + 1) 2 (by omega))) (st5 (u + 1) 2 (by omega))).1.trans cl2.1
          · exact (e3t (e3t (st3 (u + 1 + 1) (x.1 0) (by omega)) (st4 (u + 1 + 1) (x.1 0) (by omega))) (st5 (u + 1 + 1) (x.1 0) (by omega))).2.1.trans cl2.2.1
          · exact ((e3t (e3t (e3t (st2 u 1 (by omega) (by omega) (by omega)) (st3 u 1 (by omega))) (st4 u 1 (by omega))) (st5 u 1 (by omega))).1.trans bd.2.2.2.1.1)
          · exact ((e3t (st4 u 2 (by omega)) (st5 u 2 (by omega))).1.trans vl3)
        rw [eS] at k
        exact k M5 oww lmm hr5 (fun _ => bdn)
    · refine Ru_aload_n (pc := 34) dX9_buildThing_34 rfl rfl ?_
      refine Ru_dup (pc := 35) dX9_buildThing_35 rfl ?_
      refine Ru_getI (pc := 36) dX9_buildThing_36 fl_X9_97 (shTown_0 hu) rfl ?_
      refine Ru_top ((st2 u 1 (by omega) (by omega) (by omega)).1.trans bd.2.2.2.1.1) ?_
      refine Ru_iload_n (pc := 39) dX9_buildThing_39 rfl rfl ?_
      refine Ru_iorN (pc := 40) dX9_buildThing_40 ?_
      refine Ru_putI (pc := 41) rfl dX9_buildThing_41 fl_X9_97 (shTown_0 hu) ?_
      generalize en3 : r_sI M2 u 1 (nI ((bt (fun i => x.1 (5 + i)) 8) ||| (2 ^ (x.1 0)))) = M3
      have st3 : ∀ o k, ¬ (o = u ∧ k = 1) → r_eq3 M2 M3 o k := fun o k h => by
        rw [← en3]
        exact ⟨r_sI_n h, rfl, rfl⟩
      have vl3 : M3.1 u 1 = (nI ((bt (fun i => x.1 (5 + i)) 8) ||| (2 ^ (x.1 0)))) := by
        rw [← en3]
        exact r_sI_s
      have hr3 : X_rd T cnt (sNew T 0 8 x s) M3 := X_rd_eq (fun k => st3 40 k (by omega)) (fun o k h1 h2 => st3 o k (by omega)) hr2
      refine Ru_aload_n (pc := 44) dX9_buildThing_44 rfl rfl ?_
      refine Ru_cv0 (pc := 45) dX9_buildThing_45 mv_X9_131 rfl (by decide) (Nat.le_of_ble_eq_true rfl) (c_X8_next (s := (sNew T 0 8 x s)) tw hr3 (by assumption) (by show ¬ tK T ((sNew T 0 8 x s).1) = 0; omega) (fun M4 gx4 (hr4 : X_rd T cnt ((sNew T 0 8 x s).1 + 1, 0) M4) => ?_)) 
      have st4 : ∀ o k, ¬ (o = 40 ∧ 6 ≤ k ∧ k ≤ 8) → r_eq3 M3 M4 o k := fun o k h => r_ow.fx (P := fun _ _ => False) (gx4.mono rfl) o k h (fun z => z)
      refine Ru_aload_n (pc := 48) dX9_buildThing_48 rfl rfl ?_
      refine Ru_cv0 (pc := 49) dX9_buildThing_49 mv_X9_80 rfl (by decide) (Nat.le_of_ble_eq_true rfl) (c_X8_kind0 (i := ((sNew T 0 8 x s).1 + 1)) tw hr4 ?_) 
      refine Ru_sipush (pc := 52) (nI 130) dX9_buildThing_52 rfl ?_
      refine Ru_icmp_neN (pc := 55) 72 dX9_buildThing_55 (by decide) ⟨tK_rg _ _, by decide⟩ (fun h4 => ?_) (fun h4 => ?_)
      · refine Ru_aload_n (pc := 72) dX9_buildThing_72 rfl rfl ?_
        refine Ru_bipush (pc := 73) (nI 59) dX9_buildThing_73 rfl ?_
        refine Ru_cv1 (pc := 75) dX9_buildThing_75 mv_X9_134 rfl (by decide) (Nat.le_of_ble_eq_true rfl) (c_X8_expect (s := ((sNew T 0 8 x s).1 + 1, 0)) (w := 59) tw hr4 rfl (by decide) (fun M5 gx5 (hr5 : X_rd T cnt (sMust T (decide (tK T ((sNew T 0 8 x s).1 + 1) = 59)) ((sNew T 0 8 x s).1 + 1, 0)) M5) => ?_)) 
        have st5 : ∀ o k, ¬ (o = 40 ∧ 6 ≤ k ∧ k ≤ 8) → r_eq3 M4 M5 o k := fun o k h => r_ow.fx (P := fun _ _ => False) (gx5.mono rfl) o k h (fun z => z)
        refine Ru_zret (pc := 78) dX9_buildThing_78 rfl ⟨Nat.le_refl _, Nat.le_refl _⟩ (r_b_01 _) ?_
        have oww : r_ow (inT u) M M5 := fun o k h1 h2 => by
          have h2' : ¬ (u ≤ o ∧ o ≤ u + 18 ∧ ¬ (o = u ∧ 19 ≤ k)) := h2
          exact (e3t (e3t (e3t (st2 o k (by omega) (by omega) (by omega)) (st3 o k (by omega))) (st4 o k (by omega))) (st5 o k (by omega)))
        have lmm : X_lm u M5 := ⟨((e3t (e3t (e3t (st2 (u + 1) 0 (by omega) (by omega) (by omega)) (st3 (u + 1) 0 (by omega))) (st4 (u + 1) 0 (by omega))) (st5 (u + 1) 0 (by omega))).1.trans bd.1.1), ((e3t (e3t (e3t (st2 (u + 3) 0 (by omega) (by omega) (by omega)) (st3 (u + 3) 0 (by omega))) (st4 (u + 3) 0 (by omega))) (st5 (u + 3) 0 (by omega))).1.trans bd.1.2.1), ((e3t (e3t (e3t (st2 (u + 10) 0 (by omega) (by omega) (by omega)) (st3 (u + 10) 0 (by omega))) (st4 (u + 10) 0 (by omega))) (st5 (u + 10) 0 (by omega))).1.trans bd.1.2.2)⟩
        have e1 : sIf T 129 (sNew T 0 8 x s) = ((sNew T 0 8 x s).1 + 1, 0) := sIf_y hz (by assumption)
        have b1 : bIf T 129 (sNew T 0 8 x s) = 1 := bIf_y hz (by assumption)
        have e2 : thS T x s = ((sNew T 0 8 x s).1 + 1, 0) := by
          unfold thS
          rw [e1]
          exact sIf_m (by assumption)
        have b2 : bIf T 130 (sIf T 129 (sNew T 0 8 x s)) = 0 := by
          rw [e1]
          exact bIf_m (by assumption)
        have eS : prE T (thS T x s) = (sMust T (decide (tK T ((sNew T 0 8 x s).1 + 1) = 59)) ((sNew T 0 8 x s).1 + 1, 0)) := by
          unfold prE
          rw [e2]
        have bdn : X_bd u (thX T x s) M5 := by
          have tc := thX_c (T := T) (s := s) wf cl2.2.2.2
          have tv := tL_v tw (i := s.1 + 1) (Or.inl cl2.2.2.1)
          refine X_bd_th (M := M) (l := tL T (s.1 + 1)) (w := 1) (e := 0) bd wf cl2.2.2.2 ⟨tv.1, tv.2.1⟩ (by decide) (by decide) tc.1 (fun i hi => ?_) (fun i hi => ?_) tc.2.2.2 (fun o k h1 h2 h3 h4 h5 => ?_) ?_ ?_ ?_ ?_
          · exact (tc.2.1 i hi).trans (by rw [b1])
          · exact (tc.2.2.1 i hi).trans (by rw [b2])
          · exact (e3t (e3t (e3t (st2 o k (by omega) (by omega) (by omega)) (st3 o k (by omega))) (st4 o k (by omega))) (st5 o k (by omega)))
          · exact (e3t (e3t (st3 (u + 1) 2 (by omega)) (st4 (u + 1) 2 (by omega))) (st5 (u + 1) 2 (by omega))).1.trans cl2.1
          · exact (e3t (e3t (st3 (u + 1 + 1) (x.1 0) (by omega)) (st4 (u + 1 + 1) (x.1 0) (by omega))) (st5 (u + 1 + 1) (x.1 0) (by omega))).2.1.trans cl2.2.1
          · exact ((e3t (st4 u 1 (by omega)) (st5 u 1 (by omega))).1.trans vl3)
          · exact ((e3t (e3t (e3t (st2 u 2 (by omega) (by omega) (by omega)) (st3 u 2 (by omega))) (st4 u 2 (by omega))) (st5 u 2 (by omega))).1.trans bd.2.2.2.1.2.1)
        rw [eS] at k
        exact k M5 oww lmm hr5 (fun _ => bdn)
      · refine Ru_aload_n (pc := 58) dX9_buildThing_58 rfl rfl ?_
        refine Ru_dup (pc := 59) dX9_buildThing_59 rfl ?_
        refine Ru_getI (pc := 60) dX9_buildThing_60 fl_X9_100 (shTown_0 hu) rfl ?_
        refine Ru_top ((e3t (e3t (st2 u 2 (by omega) (by omega) (by omega)) (st3 u 2 (by omega))) (st4 u 2 (by omega))).1.trans bd.2.2.2.1.2.1) ?_
        refine Ru_iload_n (pc := 63) dX9_buildThing_63 rfl rfl ?_
        refine Ru_iorN (pc := 64) dX9_buildThing_64 ?_
        refine Ru_putI (pc := 65) rfl dX9_buildThing_65 fl_X9_100 (shTown_0 hu) ?_
        generalize en5 : r_sI M4 u 2 (nI ((bt (fun i => x.1 (13 + i)) 8) ||| (2 ^ (x.1 0)))) = M5
        have st5 : ∀ o k, ¬ (o = u ∧ k = 2) → r_eq3 M4 M5 o k := fun o k h => by
          rw [← en5]
          exact ⟨r_sI_n h, rfl, rfl⟩
        have vl5 : M5.1 u 2 = (nI ((bt (fun i => x.1 (13 + i)) 8) ||| (2 ^ (x.1 0)))) := by
          rw [← en5]
          exact r_sI_s
        have hr5 : X_rd T cnt ((sNew T 0 8 x s).1 + 1, 0) M5 := X_rd_eq (fun k => st5 40 k (by omega)) (fun o k h1 h2 => st5 o k (by omega)) hr4
        refine Ru_aload_n (pc := 68) dX9_buildThing_68 rfl rfl ?_
        refine Ru_cv0 (pc := 69) dX9_buildThing_69 mv_X9_131 rfl (by decide) (Nat.le_of_ble_eq_true rfl) (c_X8_next (s := ((sNew T 0 8 x s).1 + 1, 0)) tw hr5 rfl (by show ¬ tK T ((sNew T 0 8 x s).1 + 1) = 0; omega) (fun M6 gx6 (hr6 : X_rd T cnt ((sNew T 0 8 x s).1 + 1 + 1, 0) M6) => ?_)) 
        have st6 : ∀ o k, ¬ (o = 40 ∧ 6 ≤ k ∧ k ≤ 8) → r_eq3 M5 M6 o k := fun o k h => r_ow.fx (P := fun _ _ => False) (gx6.mono rfl) o k h (fun z => z)
        refine Ru_aload_n (pc := 72) dX9_buildThing_72 rfl rfl ?_
        refine Ru_bipush (pc := 73) (nI 59) dX9_buildThing_73 rfl ?_
        refine Ru_cv1 (pc := 75) dX9_buildThing_75 mv_X9_134 rfl (by decide) (Nat.le_of_ble_eq_true rfl) (c_X8_expect (s := ((sNew T 0 8 x s).1 + 1 + 1, 0)) (w := 59) tw hr6 rfl (by decide) (fun M7 gx7 (hr7 : X_rd T cnt (sMust T (decide (tK T ((sNew T 0 8 x s).1 + 1 + 1) = 59)) ((sNew T 0 8 x s).1 + 1 + 1, 0)) M7) => ?_)) 
        have st7 : ∀ o k, ¬ (o = 40 ∧ 6 ≤ k ∧ k ≤ 8) → r_eq3 M6 M7 o k := fun o k h => r_ow.fx (P := fun _ _ => False) (gx7.mono rfl) o k h (fun z => z)
        refine Ru_zret (pc := 78) dX9_buildThing_78 rfl ⟨Nat.le_refl _, Nat.le_refl _⟩ (r_b_01 _) ?_
        have oww : r_ow (inT u) M M7 := fun o k h1 h2 => by
          have h2' : ¬ (u ≤ o ∧ o ≤ u + 18 ∧ ¬ (o = u ∧ 19 ≤ k)) := h2
          exact (e3t (e3t (e3t (e3t (e3t (st2 o k (by omega) (by omega) (by omega)) (st3 o k (by omega))) (st4 o k (by omega))) (st5 o k (by omega))) (st6 o k (by omega))) (st7 o k (by omega)))
        have lmm : X_lm u M7 := ⟨((e3t (e3t (e3t (e3t (e3t (st2 (u + 1) 0 (by omega) (by omega) (by omega)) (st3 (u + 1) 0 (by omega))) (st4 (u + 1) 0 (by omega))) (st5 (u + 1) 0 (by omega))) (st6 (u + 1) 0 (by omega))) (st7 (u + 1) 0 (by omega))).1.trans bd.1.1), ((e3t (e3t (e3t (e3t (e3t (st2 (u + 3) 0 (by omega) (by omega) (by omega)) (st3 (u + 3) 0 (by omega))) (st4 (u + 3) 0 (by omega))) (st5 (u + 3) 0 (by omega))) (st6 (u + 3) 0 (by omega))) (st7 (u + 3) 0 (by omega))).1.trans bd.1.2.1), ((e3t (e3t (e3t (e3t (e3t (st2 (u + 10) 0 (by omega) (by omega) (by omega)) (st3 (u + 10) 0 (by omega))) (st4 (u + 10) 0 (by omega))) (st5 (u + 10) 0 (by omega))) (st6 (u + 10) 0 (by omega))) (st7 (u + 10) 0 (by omega))).1.trans bd.1.2.2)⟩
        have e1 : sIf T 129 (sNew T 0 8 x s) = ((sNew T 0 8 x s).1 + 1, 0) := sIf_y hz (by assumption)
        have b1 : bIf T 129 (sNew T 0 8 x s) = 1 := bIf_y hz (by assumption)
        have e2 : thS T x s = (((sNew T 0 8 x s).1 + 1) + 1, 0) := by
          unfold thS
          rw [e1]
          exact sIf_y rfl (by assumption)
        have b2 : bIf T 130 (sIf T 129 (sNew T 0 8 x s)) = 1 := by
          rw [e1]
          exact bIf_y rfl (by assumption)
        have eS : prE T (thS T x s) = (sMust T (decide (tK T ((sNew T 0 8 x s).1 + 1 + 1) = 59)) ((sNew T 0 8 x s).1 + 1 + 1, 0)) := by
          unfold prE
          rw [e2]
        have bdn : X_bd u (thX T x s) M7 := by
          have tc := thX_c (T := T) (s := s) wf cl2.2.2.2
          have tv := tL_v tw (i := s.1 + 1) (Or.inl cl2.2.2.1)
          refine X_bd_th (M := M) (l := tL T (s.1 + 1)) (w := 1) (e := 1) bd wf cl2.2.2.2 ⟨tv.1, tv.2.1⟩ (by decide) (by decide) tc.1 (fun i hi => ?_) (fun i hi => ?_) tc.2.2.2 (fun o k h1 h2 h3 h4 h5 => ?_) ?_ ?_ ?_ ?_
          · exact (tc.2.1 i hi).trans (by rw [b1])
          · exact (tc.2.2.1 i hi).trans (by rw [b2])
          · exact (e3t (e3t (e3t (e3t (e3t (st2 o k (by omega) (by omega) (by omega)) (st3 o k (by omega))) (st4 o k (by omega))) (st5 o k (by omega))) (st6 o k (by omega))) (st7 o k (by omega)))
          · exact (e3t (e3t (e3t (e3t (st3 (u + 1) 2 (by omega)) (st4 (u + 1) 2 (by omega))) (st5 (u + 1) 2 (by omega))) (st6 (u + 1) 2 (by omega))) (st7 (u + 1) 2 (by omega))).1.trans cl2.1
          · exact (e3t (e3t (e3t (e3t (st3 (u + 1 + 1) (x.1 0) (by omega)) (st4 (u + 1 + 1) (x.1 0) (by omega))) (st5 (u + 1 + 1) (x.1 0) (by omega))) (st6 (u + 1 + 1) (x.1 0) (by omega))) (st7 (u + 1 + 1) (x.1 0) (by omega))).2.1.trans cl2.2.1
          · exact ((e3t (e3t (e3t (st4 u 1 (by omega)) (st5 u 1 (by omega))) (st6 u 1 (by omega))) (st7 u 1 (by omega))).1.trans vl3)
          · exact ((e3t (st6 u 2 (by omega)) (st7 u 2 (by omega))).1.trans vl5)
        rw [eS] at k
        exact k M7 oww lmm hr7 (fun _ => bdn)
  · replace h1 := of_decide_eq_false h1
    have hz : ¬ (sNew T 0 8 x s).2 = 0 := h1
    refine Ru_iconst (pc := 22) (nI 0) dX9_buildThing_22 rfl ?_
    refine Ru_zret (pc := 23) dX9_buildThing_23 rfl ⟨Nat.le_refl _, Nat.le_refl _⟩ (Or.inl rfl) ?_
    have oww : r_ow (inT u) M M2 := fun o k h1 h2 => by
      have h2' : ¬ (u ≤ o ∧ o ≤ u + 18 ∧ ¬ (o = u ∧ 19 ≤ k)) := h2
      exact (st2 o k (by omega) (by omega) (by omega))
    have lmm : X_lm u M2 := ⟨((st2 (u + 1) 0 (by omega) (by omega) (by omega)).1.trans bd.1.1), ((st2 (u + 3) 0 (by omega) (by omega) (by omega)).1.trans bd.1.2.1), ((st2 (u + 10) 0 (by omega) (by omega) (by omega)).1.trans bd.1.2.2)⟩
    have eS : prE T (thS T x s) = sNew T 0 8 x s := by
      unfold prE thS
      rw [sIf_f (w := 129) hz, sIf_f hz, sMust_f hz]
    rw [eS] at k
    exact r_qe (r_b_f (decide_eq_false hz)) (k M2 oww lmm hr2 (fun z => absurd z hz))
