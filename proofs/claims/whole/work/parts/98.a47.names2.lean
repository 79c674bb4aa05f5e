-- READING: the developers' names of a town
theorem e3t {M M1 M2 : Mem} {o k : Nat} (h : r_eq3 M M1 o k) (g : r_eq3 M1 M2 o k) : r_eq3 M M2 o k := ⟨g.1.trans h.1, g.2.1.trans h.2.1, g.2.2.trans h.2.2⟩
/-- but for the hands at their TOKENS nothing outside what P says has changed -/
def r_ow (P : Nat → Nat → Prop) (M M' : Mem) : Prop := ∀ o k, ¬ (o = 40 ∧ 6 ≤ k ∧ k ≤ 8) → ¬ P o k → r_eq3 M M' o k
theorem r_ow.fx {P : Nat → Nat → Prop} {M M' : Mem} (h : r_fx [(40, 6), (40, 7), (40, 8)] [] M M') : r_ow P M M' := fun o k h1 _ => by
  refine h o k ?_
  simp [r_in]
  omega
theorem r_ow.tr {P : Nat → Nat → Prop} {M M1 M2 : Mem} (h : r_ow P M M1) (g : r_ow P M1 M2) : r_ow P M M2 := fun o k h1 h2 => e3t (h o k h1 h2) (g o k h1 h2)
theorem r_ow.mn {P R : Nat → Nat → Prop} {M M1 : Mem} (h : r_ow P M M1) (hs : ∀ o k, P o k → R o k) : r_ow R M M1 := fun o k h1 h2 => h o k h1 (fun z => h2 (hs o k z))
theorem r_ow.sI {P : Nat → Nat → Prop} {M M' : Mem} {o k : Nat} {v : Int32} (hp : P o k) (h : r_ow P M M') : r_ow P M (r_sI M' o k v) := fun o' k' h1 h2 => by
  have a := h o' k' h1 h2
  refine ⟨(r_sI_n (fun z => h2 ?_)).trans a.1, a.2.1, a.2.2⟩
  rw [z.1, z.2]
  exact hp
theorem r_kt_40 {u : Nat} (hu : isTown u) {M M' : Mem} (g : r_fx [(40, 6), (40, 7), (40, 8)] [] M M') : r_kt u M M' := fun o k h1 h2 => fx40 g (by
  unfold isTown at hu
  omega)
/-- the three kinds of names -/
def nK3 (u o c lim b : Nat) : Prop := (o = u + 1 ∧ c = 0 ∧ lim = 8 ∧ b = 0) ∨ (o = u + 3 ∧ c = 1 ∧ lim = 12 ∧ b = 8) ∨ (o = u + 10 ∧ c = 2 ∧ lim = 6 ∧ b = 20)
theorem nK3_n {u o c lim b : Nat} (hu : isTown u) (h : nK3 u o c lim b) : isNames o := by
  rcases h with ⟨h, _⟩ | ⟨h, _⟩ | ⟨h, _⟩
  · rw [h]
    exact (isNames_t hu).1
  · rw [h]
    exact (isNames_t hu).2.1
  · rw [h]
    exact (isNames_t hu).2.2
theorem nK3_v {u o c lim b : Nat} {x : St9} {M : Mem} (h : nK3 u o c lim b) (hb : X_bd u x M) : M.1 o 2 = nI (x.1 c) ∧ M.1 o 0 = nI lim := by
  rcases h with ⟨h1, h2, h3, _⟩ | ⟨h1, h2, h3, _⟩ | ⟨h1, h2, h3, _⟩ <;> subst h1 h2 h3
  · exact ⟨hb.2.1.1.1, hb.1.1⟩
  · exact ⟨hb.2.1.1.2.1, hb.1.2.1⟩
  · exact ⟨hb.2.1.1.2.2, hb.1.2.2⟩
theorem nK3_c {u o c lim b : Nat} {x : St9} (h : nK3 u o c lim b) (wf : Wf x.1) : x.1 c ≤ lim ∧ lim ≤ 12 := by
  have hx := wf.1
  rcases h with ⟨h1, h2, h3, _⟩ | ⟨h1, h2, h3, _⟩ | ⟨h1, h2, h3, _⟩ <;> subst h1 h2 h3 <;> omega
/-- a name more -/
def r_nwn (o n : Nat) (M M' : Mem) : Prop := ∀ o' k', ¬ (o' = o ∧ k' = 2) → ¬ (o' = o + 1 ∧ k' = n) → r_eq3 M M' o' k'
theorem c_X3_addF {Q : Rq} {M : Mem} {o n lim : Nat} (ho : isNames o) (hcn : M.1 o 2 = nI n) (hlm : M.1 o 0 = nI lim) (hn9 : n ≤ 12 ∧ lim ≤ 12) {w : Int64} (hlt : n < lim) (k : ∀ M', r_nwn o n M M' → M'.1 o 2 = nI (n + 1) → M'.2.1 (o + 1) n = w → Q none GX M') : Ca 1 mt_X3_add 0 0 [.ref o, .long w] GX M Q := by
  refine c_X3_add ho hcn hlm hn9 hlt (k _ (fun o' k' h h' => ?_) r_sI_s ?_)
  · refine ⟨(r_sI_n (fun z => h z)).trans rfl, ?_, rfl⟩
    show (r_sJ M (o + 1) n w).2.1 o' k' = _
    rw [r_sJ_g, if_neg (fun z => h' z)]
  · show (r_sJ M (o + 1) n w).2.1 (o + 1) n = _
    exact r_sJ_s

theorem c_X8_kind0 {Q : Rq} {M : Mem} {T : Tx} {cnt i : Nat} (tw : Tw T) (hr : X_rd T cnt (i, 0) M) (k : Q (some (.int (nI (tK T i)))) GX M) : Ca 0 mt_X8_kind 0 0 [.ref 40] GX M Q := c_X8_kind (s := (i, 0)) tw hr rfl k
theorem c_X8_word0 {Q : Rq} {M : Mem} {T : Tx} {cnt i : Nat} (tw : Tw T) (hr : X_rd T cnt (i, 0) M) (h3 : tK T i = 3) (k : Q (some (.long (nJ (cd 27 (tL T i))))) GX M) : Ca 0 mt_X8_word 0 0 [.ref 40] GX M Q := c_X8_word (s := (i, 0)) tw hr rfl h3 k

theorem X_rd_eq {T : Tx} {cnt : Nat} {s : Ps} {M M' : Mem} (h : ∀ k, r_eq3 M M' 40 k) (g : ∀ o k, 43 ≤ o → o ≤ 45 → r_eq3 M M' o k) (hr : X_rd T cnt s M) : X_rd T cnt s M' := by
  refine ⟨fun z => ?_, (h 7).1.trans hr.2.1, (h 8).1.trans hr.2.2⟩
  obtain ⟨a, b, c⟩ := hr.1 z
  refine ⟨(h 6).1.trans a, b, fun j hj => ?_⟩
  obtain ⟨c1, c2, c3, c4⟩ := c j hj
  exact ⟨(g 43 j (by omega) (by omega)).1.trans c1, (g 44 j (by omega) (by omega)).1.trans c2, fun z => (g 45 j (by omega) (by omega)).2.1.trans (c3 z), fun z => (g 45 j (by omega) (by omega)).2.1.trans (c4 z)⟩

theorem c_X9_buildName {Q : Rq} {M : Mem} {T : Tx} {cnt u : Nat} {s : Ps} {x : St9} (tw : Tw T) (hu : isTown u) (bd : X_bd u x M) (wf : Wf x.1) (hr : X_rd T cnt s M) (h0 : s.2 = 0) {o c lim b : Nat} (hoc : nK3 u o c lim b) (hP : 128 ≤ tK T s.1) (kF : ∀ M', r_fx [(40, 6), (40, 7), (40, 8)] [] M M' → X_rd T cnt (sNew T c lim x s) M' → ¬ (sNew T c lim x s).2 = 0 → Q (some (.int (nI 0))) GX M') (kT : ∀ M', r_ow (fun o' k' => (o' = o ∧ k' = 2) ∨ (o' = o + 1 ∧ k' = x.1 c)) M M' → M'.1 o 2 = nI (x.1 c + 1) → M'.2.1 (o + 1) (x.1 c) = nJ (cd 27 (tL T (s.1 + 1))) → X_rd T cnt (s.1 + 2, 0) M' → tK T (s.1 + 1) = 3 → x.1 c < lim → (sNew T c lim x s) = (s.1 + 2, 0) → Q (some (.int (nI 1))) GX M') : Ca 2 mt_X9_buildName 0 0 [.ref u, .ref 40, .ref o] GX M Q := by
  refine Ca_of rfl (Nat.le_of_ble_eq_true rfl) ?_
  have hT : u = 3 ∨ u = 83 ∨ u = 111 ∨ u = 139 ∨ u = 167 := hu
  have hcx := nK3_c hoc wf
  have hx := wf.1
  have hoN : (u + 1 = o ∨ u + 3 = o ∨ u + 10 = o) := by
    rcases hoc with z | z | z <;> omega
  have fx : r_fx [(40, 6), (40, 7), (40, 8)] [] M M := r_fx.rf
  have hm0 := nM_t (k := fN x.2 (tL T (s.1 + 1)) 0 (x.1 0)) (by have := fN_le x.2 (tL T (s.1 + 1)) 0 (x.1 0); omega)
  have hm1 := nM_t (k := fN x.2 (tL T (s.1 + 1)) 8 (x.1 1)) (by have := fN_le x.2 (tL T (s.1 + 1)) 8 (x.1 1); omega)
  have hm2 := nM_t (k := fN x.2 (tL T (s.1 + 1)) 20 (x.1 2)) (by have := fN_le x.2 (tL T (s.1 + 1)) 20 (x.1 2); omega)
  have em : (-1 : Int32).toInt = -1 := rfl
  have hkc := kK_b T (tA T (s.1 + 1))
  have hkd : kK T (tA T (s.1 + 1)) = tK T (s.1 + 1) := rfl
  rw [hkd] at hkc
  refine Ru_aload_n (pc := 0) dX9_buildName_0 rfl rfl ?_
  refine Ru_cv0 (pc := 1) dX9_buildName_1 mv_X9_151 (shNames_0 (nK3_n hu hoc)) (by decide) (Nat.le_of_ble_eq_true rfl) (c_X3_isFull (nK3_n hu hoc) (nK3_v hoc bd).1 (nK3_v hoc bd).2 ⟨by omega, by omega⟩ ?_) 
  refine Ru_if_eqB (pc := 4) 14 dX9_buildName_4 (by decide) (fun h1 => ?_) (fun h1 => ?_)
  · replace h1 := of_decide_eq_false h1
    refine Ru_aload_n (pc := 14) dX9_buildName_14 rfl rfl ?_
    refine Ru_cv0 (pc := 15) dX9_buildName_15 mv_X9_131 rfl (by decide) (Nat.le_of_ble_eq_true rfl) (c_X8_next (s := s) tw hr (by assumption) (by omega) (fun M2 gx2 (hr2 : X_rd T cnt (s.1 + 1, 0) M2) => ?_)) 
    have bd2 := X_bd_kt (r_kt_40 hu (gx2.mono rfl)) bd
    have fx2 := fx.tr (gx2.mono rfl)
    refine Ru_aload_n (pc := 18) dX9_buildName_18 rfl rfl ?_
    refine Ru_cv0 (pc := 19) dX9_buildName_19 mv_X9_80 rfl (by decide) (Nat.le_of_ble_eq_true rfl) (c_X8_kind0 (i := (s.1 + 1)) tw hr2 ?_) 
    refine Ru_iconst (pc := 22) (nI 3) dX9_buildName_22 rfl ?_
    refine Ru_icmp_eqN (pc := 23) 32 dX9_buildName_23 (by decide) (by omega) (fun h2 => ?_) (fun h2 => ?_)
    · have hv := tL_v tw (i := s.1 + 1) (Or.inl (by assumption))
      refine Ru_aload_n (pc := 32) dX9_buildName_32 rfl rfl ?_
      refine Ru_getR (pc := 33) (u + 1) dX9_buildName_33 fl_X9_14 (shTown_0 hu) rfl (rfX_of (o := u) (j := 1) (shTown_0 hu) rfl) ?_
      refine Ru_aload_n (pc := 36) dX9_buildName_36 rfl rfl ?_
      refine Ru_cv0 (pc := 37) dX9_buildName_37 mv_X9_155 rfl (by decide) (Nat.le_of_ble_eq_true rfl) (c_X8_word0 (i := (s.1 + 1)) tw hr2 (by assumption) ?_) 
      refine Ru_cv1 (pc := 40) dX9_buildName_40 mv_X9_159 (shNames_0 (isNames_t hu).1) (by decide) (Nat.le_of_ble_eq_true rfl) (c_X3_find (W := x.2) (b := 0) (isNames_t hu).1 bd2.2.1.1.1 (by omega) bd2.2.1.2.1 hv.1 hv.2.1 ?_) 
      refine Ru_iconst (pc := 43) (-1) dX9_buildName_43 rfl ?_
      refine Ru_icmp_neT (pc := 44) 77 dX9_buildName_44 (by decide) (fun h3 => ?_) (fun h3 => ?_)
      · refine Ru_aload_n (pc := 77) dX9_buildName_77 rfl rfl ?_
        refine Ru_iconst (pc := 78) (nI 3) dX9_buildName_78 rfl ?_
        refine Ru_cv1 (pc := 79) dX9_buildName_79 mv_X9_123 rfl (by decide) (Nat.le_of_ble_eq_true rfl) (c_X8_refuse (s := (s.1 + 1, 0)) (f := 3) tw hr2 rfl (by decide) (fun M3 gx3 hr3 => ?_)) 
        have bd3 := X_bd_kt (r_kt_40 hu (gx3.mono rfl)) bd2
        have fx3 := fx2.tr (gx3.mono rfl)
        refine Ru_zret (pc := 82) dX9_buildName_82 rfl ⟨Nat.le_refl _, Nat.le_refl _⟩ (Or.inl rfl) ?_
        have ht : tkn x (tL T (s.1 + 1)) = true := by
          unfold tkn
          simp only [Bool.or_eq_true, decide_eq_true_eq]
          omega
        have e : (sNew T c lim x s) = sRf T 3 (s.1 + 1, 0) := by
          unfold sNew
          rw [if_neg (fun z => z h0), if_neg (show ¬ x.1 c = lim by omega), if_neg (fun z => z (by assumption)), if_pos ht, sRf_f rfl (by show ¬ tK T (s.1 + 1) = 1; omega)]
          rfl
        have hn : ¬ (sNew T c lim x s).2 = 0 := by
          rw [e]
          exact sRf_n (by decide)
        rw [e] at kF hn
        exact kF M3 fx3 hr3 hn
      · refine Ru_aload_n (pc := 47) dX9_buildName_47 rfl rfl ?_
        refine Ru_getR (pc := 48) (u + 3) dX9_buildName_48 fl_X9_20 (shTown_0 hu) rfl (rfX_of (o := u) (j := 3) (shTown_0 hu) rfl) ?_
        refine Ru_aload_n (pc := 51) dX9_buildName_51 rfl rfl ?_
        refine Ru_cv0 (pc := 52) dX9_buildName_52 mv_X9_155 rfl (by decide) (Nat.le_of_ble_eq_true rfl) (c_X8_word0 (i := (s.1 + 1)) tw hr2 (by assumption) ?_) 
        refine Ru_cv1 (pc := 55) dX9_buildName_55 mv_X9_159 (shNames_0 (isNames_t hu).2.1) (by decide) (Nat.le_of_ble_eq_true rfl) (c_X3_find (W := x.2) (b := 8) (isNames_t hu).2.1 bd2.2.1.1.2.1 (by omega) bd2.2.1.2.2.1 hv.1 hv.2.1 ?_) 
        refine Ru_iconst (pc := 58) (-1) dX9_buildName_58 rfl ?_
        refine Ru_icmp_neT (pc := 59) 77 dX9_buildName_59 (by decide) (fun h4 => ?_) (fun h4 => ?_)
        · refine Ru_aload_n (pc := 77) dX9_buildName_77 rfl rfl ?_
          refine Ru_iconst (pc := 78) (nI 3) dX9_buildName_78 rfl ?_
          refine Ru_cv1 (pc := 79) dX9_buildName_79 mv_X9_123 rfl (by decide) (Nat.le_of_ble_eq_true rfl) (c_X8_refuse (s := (s.1 + 1, 0)) (f := 3) tw hr2 rfl (by decide) (fun M3 gx3 hr3 => ?_)) 
          have bd3 := X_bd_kt (r_kt_40 hu (gx3.mono rfl)) bd2
          have fx3 := fx2.tr (gx3.mono rfl)
          refine Ru_zret (pc := 82) dX9_buildName_82 rfl ⟨Nat.le_refl _, Nat.le_refl _⟩ (Or.inl rfl) ?_
          have ht : tkn x (tL T (s.1 + 1)) = true := by
            unfold tkn
            simp only [Bool.or_eq_true, decide_eq_true_eq]
            omega
          have e : (sNew T c lim x s) = sRf T 3 (s.1 + 1, 0) := by
            unfold sNew
            rw [if_neg (fun z => z h0), if_neg (show ¬ x.1 c = lim by omega), if_neg (fun z => z (by assumption)), if_pos ht, sRf_f rfl (by show ¬ tK T (s.1 + 1) = 1; omega)]
            rfl
          have hn : ¬ (sNew T c lim x s).2 = 0 := by
            rw [e]
            exact sRf_n (by decide)
          rw [e] at kF hn
          exact kF M3 fx3 hr3 hn
        · refine Ru_aload_n (pc := 62) dX9_buildName_62 rfl rfl ?_
          refine Ru_getR (pc := 63) (u + 10) dX9_buildName_63 fl_X9_39 (shTown_0 hu) rfl (rfX_of (o := u) (j := 10) (shTown_0 hu) rfl) ?_
          refine Ru_aload_n (pc := 66) dX9_buildName_66 rfl rfl ?_
          refine Ru_cv0 (pc := 67) dX9_buildName_67 mv_X9_155 rfl (by decide) (Nat.le_of_ble_eq_true rfl) (c_X8_word0 (i := (s.1 + 1)) tw hr2 (by assumption) ?_) 
          refine Ru_cv1 (pc := 70) dX9_buildName_70 mv_X9_159 (shNames_0 (isNames_t hu).2.2) (by decide) (Nat.le_of_ble_eq_true rfl) (c_X3_find (W := x.2) (b := 20) (isNames_t hu).2.2 bd2.2.1.1.2.2 (by omega) bd2.2.1.2.2.2 hv.1 hv.2.1 ?_) 
          refine Ru_iconst (pc := 73) (-1) dX9_buildName_73 rfl ?_
          refine Ru_icmp_eqT (pc := 74) 83 dX9_buildName_74 (by decide) (fun h5 => ?_) (fun h5 => ?_)
          · refine Ru_aload_n (pc := 83) dX9_buildName_83 rfl rfl ?_
            refine Ru_aload_n (pc := 84) dX9_buildName_84 rfl rfl ?_
            refine Ru_cv0 (pc := 85) dX9_buildName_85 mv_X9_155 rfl (by decide) (Nat.le_of_ble_eq_true rfl) (c_X8_word0 (i := (s.1 + 1)) tw hr2 (by assumption) ?_) 
            refine Ru_cv1 (pc := 88) dX9_buildName_88 mv_X9_163 (shNames_0 (nK3_n hu hoc)) (by decide) (Nat.le_of_ble_eq_true rfl) (c_X3_addF (nK3_n hu hoc) (nK3_v hoc bd2).1 (nK3_v hoc bd2).2 ⟨by omega, by omega⟩ (by omega) (fun M3 ax3 ac3 an3 => ?_)) 
            have hr3 : X_rd T cnt (s.1 + 1, 0) M3 := X_rd_eq (fun k => ax3 40 k (by omega) (by omega)) (fun o' k h1 h2 => ax3 o' k (by omega) (by omega)) hr2
            have bd3 : True := trivial
            have fx3 : True := trivial
            refine Ru_aload_n (pc := 91) dX9_buildName_91 rfl rfl ?_
            refine Ru_cv0 (pc := 92) dX9_buildName_92 mv_X9_131 rfl (by decide) (Nat.le_of_ble_eq_true rfl) (c_X8_next (s := (s.1 + 1, 0)) tw hr3 rfl (by show ¬ tK T (s.1 + 1) = 0; omega) (fun M4 gx4 (hr4 : X_rd T cnt (s.1 + 1 + 1, 0) M4) => ?_)) 
            refine Ru_iconst (pc := 95) (nI 1) dX9_buildName_95 rfl ?_
            refine Ru_zret (pc := 96) dX9_buildName_96 rfl ⟨Nat.le_refl _, Nat.le_refl _⟩ (Or.inr rfl) ?_
            have ht : ¬ tkn x (tL T (s.1 + 1)) = true := by
              unfold tkn
              simp only [Bool.or_eq_true, decide_eq_true_eq]
              omega
            have e : (sNew T c lim x s) = (s.1 + 2, 0) := by
              unfold sNew
              rw [if_neg (fun z => z h0), if_neg (show ¬ x.1 c = lim by omega), if_neg (fun z => z (by assumption)), if_neg ht]
            exact kT M4 (fun o' k' h1 h2 => e3t (r_ow.fx (P := fun _ _ => False) fx2 o' k' h1 (fun z => z)) (e3t (ax3 o' k' (fun z => h2 (Or.inl z)) (fun z => h2 (Or.inr z))) (r_ow.fx (P := fun _ _ => False) (gx4.mono rfl) o' k' h1 (fun z => z)))) ((fx40 (gx4.mono rfl) (by omega)).1.trans ac3) ((fx40 (gx4.mono rfl) (by omega)).2.1.trans an3) hr4 (by assumption) (by omega) e
          · refine Ru_aload_n (pc := 77) dX9_buildName_77 rfl rfl ?_
            refine Ru_iconst (pc := 78) (nI 3) dX9_buildName_78 rfl ?_
            refine Ru_cv1 (pc := 79) dX9_buildName_79 mv_X9_123 rfl (by decide) (Nat.le_of_ble_eq_true rfl) (c_X8_refuse (s := (s.1 + 1, 0)) (f := 3) tw hr2 rfl (by decide) (fun M3 gx3 hr3 => ?_)) 
            have bd3 := X_bd_kt (r_kt_40 hu (gx3.mono rfl)) bd2
            have fx3 := fx2.tr (gx3.mono rfl)
            refine Ru_zret (pc := 82) dX9_buildName_82 rfl ⟨Nat.le_refl _, Nat.le_refl _⟩ (Or.inl rfl) ?_
            have ht : tkn x (tL T (s.1 + 1)) = true := by
              unfold tkn
              simp only [Bool.or_eq_true, decide_eq_true_eq]
              omega
            have e : (sNew T c lim x s) = sRf T 3 (s.1 + 1, 0) := by
              unfold sNew
              rw [if_neg (fun z => z h0), if_neg (show ¬ x.1 c = lim by omega), if_neg (fun z => z (by assumption)), if_pos ht, sRf_f rfl (by show ¬ tK T (s.1 + 1) = 1; omega)]
              rfl
            have hn : ¬ (sNew T c lim x s).2 = 0 := by
              rw [e]
              exact sRf_n (by decide)
            rw [e] at kF hn
            exact kF M3 fx3 hr3 hn
    · refine Ru_aload_n (pc := 26) dX9_buildName_26 rfl rfl ?_
      refine Ru_iconst (pc := 27) (nI 2) dX9_buildName_27 rfl ?_
      refine Ru_cv1 (pc := 28) dX9_buildName_28 mv_X9_123 rfl (by decide) (Nat.le_of_ble_eq_true rfl) (c_X8_refuse (s := (s.1 + 1, 0)) (f := 2) tw hr2 rfl (by decide) (fun M3 gx3 hr3 => ?_)) 
      have bd3 := X_bd_kt (r_kt_40 hu (gx3.mono rfl)) bd2
      have fx3 := fx2.tr (gx3.mono rfl)
      refine Ru_zret (pc := 31) dX9_buildName_31 rfl ⟨Nat.le_refl _, Nat.le_refl _⟩ (Or.inl rfl) ?_
      have e : (sNew T c lim x s) = sRf T 2 (s.1 + 1, 0) := by
        unfold sNew
        rw [if_neg (fun z => z h0), if_neg (show ¬ x.1 c = lim by omega), if_pos (by assumption), sRf_w rfl]
      have hn : ¬ (sNew T c lim x s).2 = 0 := by
        rw [e]
        exact sRf_n (by decide)
      rw [e] at kF hn
      exact kF M3 fx3 hr3 hn
  · replace h1 := of_decide_eq_true h1
    refine Ru_aload_n (pc := 7) dX9_buildName_7 rfl rfl ?_
    refine Ru_bipush (pc := 8) (nI 6) dX9_buildName_8 rfl ?_
    refine Ru_cv1 (pc := 10) dX9_buildName_10 mv_X9_123 rfl (by decide) (Nat.le_of_ble_eq_true rfl) (c_X8_refuse (s := s) (f := 6) tw hr (by assumption) (by decide) (fun M2 gx2 hr2 => ?_)) 
    have bd2 := X_bd_kt (r_kt_40 hu (gx2.mono rfl)) bd
    have fx2 := fx.tr (gx2.mono rfl)
    refine Ru_zret (pc := 13) dX9_buildName_13 rfl ⟨Nat.le_refl _, Nat.le_refl _⟩ (Or.inl rfl) ?_
    have e : (sNew T c lim x s) = sRf T 6 s := by
      unfold sNew sRf
      rw [if_neg (fun z => z h0), if_pos (by omega), if_neg (by omega)]
    have hn : ¬ (sNew T c lim x s).2 = 0 := by
      rw [e]
      exact sRf_n (by decide)
    rw [e] at kF hn
    exact kF M2 fx2 hr2 hn
