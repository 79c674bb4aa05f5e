theorem r_l2 (a b : Int32) : (a.toInt64 + b.toInt64).toInt = a.toInt + b.toInt := by
  have h1 := a.toInt_lt
  have h2 := a.le_toInt
  have h3 := b.toInt_lt
  have h4 := b.le_toInt
  rw [Int64.toInt_add, Int32.toInt_toInt64, Int32.toInt_toInt64, Int.bmod_eq_of_le (by omega) (by omega)]
theorem r_l2_lt {a b c : Int32} (h : c.toInt64 < a.toInt64 + b.toInt64) : c.toInt < a.toInt + b.toInt := by
  rw [Int64.lt_iff_toInt_lt, r_l2, Int32.toInt_toInt64] at h
  exact h
theorem r_l2_nlt {a b c : Int32} (h : ¬ c.toInt64 < a.toInt64 + b.toInt64) : a.toInt + b.toInt ≤ c.toInt := by
  rw [Int64.lt_iff_toInt_lt, r_l2, Int32.toInt_toInt64] at h
  omega
theorem r_l2_le {a b c : Int32} (h : a.toInt64 + b.toInt64 ≤ c.toInt64) : a.toInt + b.toInt ≤ c.toInt := by
  rw [Int64.le_iff_toInt_le, r_l2, Int32.toInt_toInt64] at h
  exact h
theorem r_l2_nle {a b c : Int32} (h : ¬ a.toInt64 + b.toInt64 ≤ c.toInt64) : c.toInt < a.toInt + b.toInt := by
  rw [Int64.le_iff_toInt_le, r_l2, Int32.toInt_toInt64] at h
  omega
def f_pour (t i u j n : Int32) (tr : Nat → Tr) : Bool × Int32 × (Nat → Tr) :=
  if t.toInt < 0 ∨ 4 ≤ t.toInt ∨ u.toInt < 0 ∨ 4 ≤ u.toInt then (false, nI 1, tr)
  else if (tr t.toInt.toNat).2.1.toInt < 0 ∨ (tr u.toInt.toNat).2.1.toInt < 0 then (false, nI 3, tr)
  else if ¬ (tr t.toInt.toNat).1.toInt = (tr u.toInt.toNat).1.toInt then (false, nI 11, tr)
  else if n.toInt < 0 then (false, nI 6, tr)
  else if i.toInt < 0 ∨ j.toInt < 0 ∨ (tr t.toInt.toNat).2.1.toInt < i.toInt + n.toInt ∨ (tr u.toInt.toNat).2.1.toInt < j.toInt + n.toInt then (false, nI 4, tr)
  else (true, nI 0, fun q => if q = u.toInt.toNat then ((tr q).1, (tr q).2.1, fun k => if j.toInt.toNat ≤ k ∧ k < j.toInt.toNat + n.toInt.toNat then (tr t.toInt.toNat).2.2 (i.toInt.toNat + (k - j.toInt.toNat)) else (tr q).2.2 k) else tr q)

theorem l_X12_pour1 {Q : Rq} {M : Mem} {t i u j n : Nat} (ht : t < 4) (hu : u < 4) (hi : i + n ≤ 60) (hj : j + n ≤ 60) (hr : i < j) (k : ∀ M', r_fx [] [3] M M' → (∀ p, p < n → M'.2.1 3 (60 * u + j + p) = M.2.1 3 (60 * t + i + p)) → (∀ a, (∀ p, p < n → a ≠ 60 * u + j + p) → M'.2.1 3 a = M.2.1 3 a) → Q (some (.int (nI 1))) GY M') : ∀ (w q : Nat) (M1 : Mem), n - q = w → q ≤ n → r_fx [] [3] M M1 → (∀ p, p < n → n - q ≤ p → M1.2.1 3 (60 * u + j + p) = M.2.1 3 (60 * t + i + p)) → (∀ a, (∀ p, p < n → n - q ≤ p → a ≠ 60 * u + j + p) → M1.2.1 3 a = M.2.1 3 a) → Ru 1 mt_X12_pour r_z 158 [(7, some (.int (nI q))), (0, some (.ref 0)), (1, some (.int (nI t))), (2, some (.int (nI i))), (3, some (.int (nI u))), (4, some (.int (nI j))), (5, some (.int (nI n))), (6, some (.int (nI 1)))] [] GY M1 Q := by
  intro w
  induction w using Nat.strongRecOn with
  | ind w ih =>
    intro q M1 hw hq e1 e2 e3
    subst hw
    refine Ru_iload (pc := 158) dX12_pour_158 rfl ?_
    refine Ru_iload (pc := 160) dX12_pour_160 rfl ?_
    refine Ru_icmp_geN (pc := 162) 219 dX12_pour_162 (by decide) (by omega) (fun h1 => ?_) (fun h1 => ?_)
    · refine Ru_iconst (pc := 219) (nI 1) dX12_pour_219 rfl ?_
      refine Ru_zret (pc := 220) dX12_pour_220 rfl ⟨Nat.le_refl _, Nat.le_refl _⟩ (Or.inr rfl) ?_
      refine k M1 e1 (fun p hp => e2 p hp (by omega)) (fun a ha => e3 a (fun p hp _ => ha p hp))
    · refine Ru_iload (pc := 165) dX12_pour_165 rfl ?_
      refine Ru_if_eqN (pc := 167) 180 dX12_pour_167 (by decide) (by omega) (fun h2 => ?_) (fun h2 => ?_)
      · exfalso; omega
      · refine Ru_iload (pc := 170) dX12_pour_170 rfl ?_
        refine Ru_iconst (pc := 172) (nI 1) dX12_pour_172 rfl ?_
        refine Ru_isubN (pc := 173) dX12_pour_173 (by omega) ?_
        refine Ru_iload (pc := 174) dX12_pour_174 rfl ?_
        refine Ru_isubN (pc := 176) dX12_pour_176 (by omega) ?_
        refine Ru_goto (pc := 177) 182 dX12_pour_177 (by decide) ?_
        refine Ru_istore (pc := 182) dX12_pour_182 rfl (by decide) ?_
        refine Ru_aload_n (pc := 184) dX12_pour_184 rfl rfl ?_
        refine Ru_getR (pc := 185) 3 dX12_pour_185 fl_X12_20 rfl rfl rfl ?_
        refine Ru_bipush (pc := 188) (nI 60) dX12_pour_188 rfl ?_
        refine Ru_iload_n (pc := 190) dX12_pour_190 rfl rfl ?_
        refine Ru_imulN (pc := 191) dX12_pour_191 ?_
        refine Ru_iload (pc := 192) dX12_pour_192 rfl ?_
        refine Ru_iaddN (pc := 194) dX12_pour_194 ?_
        refine Ru_iload (pc := 195) dX12_pour_195 rfl ?_
        refine Ru_iaddN (pc := 197) dX12_pour_197 ?_
        refine Ru_aload_n (pc := 198) dX12_pour_198 rfl rfl ?_
        refine Ru_getR (pc := 199) 3 dX12_pour_199 fl_X12_20 rfl rfl rfl ?_
        refine Ru_bipush (pc := 202) (nI 60) dX12_pour_202 rfl ?_
        refine Ru_iload_n (pc := 204) dX12_pour_204 rfl rfl ?_
        refine Ru_imulN (pc := 205) dX12_pour_205 ?_
        refine Ru_iload_n (pc := 206) dX12_pour_206 rfl rfl ?_
        refine Ru_iaddN (pc := 207) dX12_pour_207 ?_
        refine Ru_iload (pc := 208) dX12_pour_208 rfl ?_
        refine Ru_iaddN (pc := 210) dX12_pour_210 ?_
        refine Ru_lald (pc := 211) dX12_pour_211 rfl (by omega) ?_
        refine Ru_last (pc := 212) rfl dX12_pour_212 rfl (by omega) ?_
        refine Ru_iincN (pc := 213) 1 dX12_pour_213 rfl rfl rfl (by decide) ?_
        refine Ru_goto (pc := 216) 158 dX12_pour_216 (by decide) ?_
        refine Ru_weak (ih (n - (q + 1)) (by omega) (q + 1) _ rfl (by omega) (r_fx.sJ rfl e1) (fun p hp hc => ?_) (fun a ha => ?_)) rfl
        · rw [r_sJ_g]
          by_cases hpq : p = (n - 1 - q)
          · subst hpq
            rw [if_pos ⟨rfl, rfl⟩]
            refine e3 _ (fun p' hp' hc' => ?_)
            omega
          · rw [if_neg (by omega)]
            exact e2 p hp (by omega)
        · have h9 := ha (n - 1 - q) (by omega) (by omega)
          rw [r_sJ_g, if_neg (fun z => h9 z.2)]
          exact e3 a (fun p hp hc => ha p hp (by omega))

theorem l_X12_pour0 {Q : Rq} {M : Mem} {t i u j n : Nat} (ht : t < 4) (hu : u < 4) (hi : i + n ≤ 60) (hj : j + n ≤ 60) (hr : j ≤ i) (k : ∀ M', r_fx [] [3] M M' → (∀ p, p < n → M'.2.1 3 (60 * u + j + p) = M.2.1 3 (60 * t + i + p)) → (∀ a, (∀ p, p < n → a ≠ 60 * u + j + p) → M'.2.1 3 a = M.2.1 3 a) → Q (some (.int (nI 1))) GY M') : ∀ (w q : Nat) (M1 : Mem), n - q = w → q ≤ n → r_fx [] [3] M M1 → (∀ p, p < n → p < q → M1.2.1 3 (60 * u + j + p) = M.2.1 3 (60 * t + i + p)) → (∀ a, (∀ p, p < n → p < q → a ≠ 60 * u + j + p) → M1.2.1 3 a = M.2.1 3 a) → Ru 1 mt_X12_pour r_z 158 [(7, some (.int (nI q))), (0, some (.ref 0)), (1, some (.int (nI t))), (2, some (.int (nI i))), (3, some (.int (nI u))), (4, some (.int (nI j))), (5, some (.int (nI n))), (6, some (.int (nI 0)))] [] GY M1 Q := by
  intro w
  induction w using Nat.strongRecOn with
  | ind w ih =>
    intro q M1 hw hq e1 e2 e3
    subst hw
    refine Ru_iload (pc := 158) dX12_pour_158 rfl ?_
    refine Ru_iload (pc := 160) dX12_pour_160 rfl ?_
    refine Ru_icmp_geN (pc := 162) 219 dX12_pour_162 (by decide) (by omega) (fun h1 => ?_) (fun h1 => ?_)
    · refine Ru_iconst (pc := 219) (nI 1) dX12_pour_219 rfl ?_
      refine Ru_zret (pc := 220) dX12_pour_220 rfl ⟨Nat.le_refl _, Nat.le_refl _⟩ (Or.inr rfl) ?_
      refine k M1 e1 (fun p hp => e2 p hp (by omega)) (fun a ha => e3 a (fun p hp _ => ha p hp))
    · refine Ru_iload (pc := 165) dX12_pour_165 rfl ?_
      refine Ru_if_eqN (pc := 167) 180 dX12_pour_167 (by decide) (by omega) (fun h2 => ?_) (fun h2 => ?_)
      · refine Ru_iload (pc := 180) dX12_pour_180 rfl ?_
        refine Ru_istore (pc := 182) dX12_pour_182 rfl (by decide) ?_
        refine Ru_aload_n (pc := 184) dX12_pour_184 rfl rfl ?_
        refine Ru_getR (pc := 185) 3 dX12_pour_185 fl_X12_20 rfl rfl rfl ?_
        refine Ru_bipush (pc := 188) (nI 60) dX12_pour_188 rfl ?_
        refine Ru_iload_n (pc := 190) dX12_pour_190 rfl rfl ?_
        refine Ru_imulN (pc := 191) dX12_pour_191 ?_
        refine Ru_iload (pc := 192) dX12_pour_192 rfl ?_
        refine Ru_iaddN (pc := 194) dX12_pour_194 ?_
        refine Ru_iload (pc := 195) dX12_pour_195 rfl ?_
        refine Ru_iaddN (pc := 197) dX12_pour_197 ?_
        refine Ru_aload_n (pc := 198) dX12_pour_198 rfl rfl ?_
        refine Ru_getR (pc := 199) 3 dX12_pour_199 fl_X12_20 rfl rfl rfl ?_
        refine Ru_bipush (pc := 202) (nI 60) dX12_pour_202 rfl ?_
        refine Ru_iload_n (pc := 204) dX12_pour_204 rfl rfl ?_
        refine Ru_imulN (pc := 205) dX12_pour_205 ?_
        refine Ru_iload_n (pc := 206) dX12_pour_206 rfl rfl ?_
        refine Ru_iaddN (pc := 207) dX12_pour_207 ?_
        refine Ru_iload (pc := 208) dX12_pour_208 rfl ?_
        refine Ru_iaddN (pc := 210) dX12_pour_210 ?_
        refine Ru_lald (pc := 211) dX12_pour_211 rfl (by omega) ?_
        refine Ru_last (pc := 212) rfl dX12_pour_212 rfl (by omega) ?_
        refine Ru_iincN (pc := 213) 1 dX12_pour_213 rfl rfl rfl (by decide) ?_
        refine Ru_goto (pc := 216) 158 dX12_pour_216 (by decide) ?_
        refine Ru_weak (ih (n - (q + 1)) (by omega) (q + 1) _ rfl (by omega) (r_fx.sJ rfl e1) (fun p hp hc => ?_) (fun a ha => ?_)) rfl
        · rw [r_sJ_g]
          by_cases hpq : p = q
          · subst hpq
            rw [if_pos ⟨rfl, rfl⟩]
            refine e3 _ (fun p' hp' hc' => ?_)
            omega
          · rw [if_neg (by omega)]
            exact e2 p hp (by omega)
        · have h9 := ha q (by omega) (by omega)
          rw [r_sJ_g, if_neg (fun z => h9 z.2)]
          exact e3 a (fun p hp hc => ha p hp (by omega))
      · exfalso; omega

theorem Y_tr_pour {tr : Nat → Tr} {M M2 M' : Mem} {t i u j n : Nat} (hy : Y_tr tr M) (ht : t < 4) (hu : u < 4) (hi : (i + n : Int) ≤ (tr t).2.1.toInt) (hj : (j + n : Int) ≤ (tr u).2.1.toInt) (e2 : M2 = r_sI (r_sI M 0 1 (nI 0)) 0 0 (nI 0)) (hf : r_fx [] [3] M2 M') (hz : ∀ p, p < n → M'.2.1 3 (60 * u + j + p) = M2.2.1 3 (60 * t + i + p)) (ho : ∀ a, (∀ p, p < n → a ≠ 60 * u + j + p) → M'.2.1 3 a = M2.2.1 3 a) : Y_tr (fun q => if q = u then ((tr q).1, (tr q).2.1, fun k => if j ≤ k ∧ k < j + n then (tr t).2.2 (i + (k - j)) else (tr q).2.2 k) else tr q) M' := by
  intro q hq
  obtain ⟨a, b, c, d⟩ := hy q hq
  obtain ⟨a2, b2, c2, d2⟩ := hy t ht
  have lu := (hy u hu).2.2.1
  have f1 := (hf 1 q rfl).1
  have f2 := (hf 2 q rfl).1
  subst e2
  rw [r_sI_n (by omega), r_sI_n (by omega)] at f1 f2
  by_cases hqu : q = u
  · subst hqu
    simp only [if_pos]
    refine ⟨f1.trans a, f2.trans b, c, fun k hk => ?_⟩
    by_cases hjk : j ≤ k ∧ k < j + n
    · rw [if_pos hjk]
      have h1 := hz (k - j) (by omega)
      rw [show 60 * q + j + (k - j) = 60 * q + k by omega] at h1
      rw [h1, ← d2 (i + (k - j)) (by omega)]
      exact congrArg (M.2.1 3) (show 60 * t + i + (k - j) = 60 * t + (i + (k - j)) by omega)
    · rw [if_neg hjk, ho _ (fun p hp => by omega)]
      exact d k hk
  · simp only [if_neg hqu]
    refine ⟨f1.trans a, f2.trans b, c, fun k hk => ?_⟩
    rw [ho _ (fun p hp => by omega)]
    exact d k hk

theorem c_X12_pour {Q : Rq} {M : Mem} {t i u j n : Int32} {tr : Nat → Tr} (hy : Y_tr tr M) (k : ∀ M', r_fx [(0, 0), (0, 1)] [3] M M' → M'.1 0 0 = (f_pour t i u j n tr).2.1 → Y_tr (f_pour t i u j n tr).2.2 M' → Q (some (.int (r_b (f_pour t i u j n tr).1))) GY M') : Ca 1 mt_X12_pour 0 0 [.ref 0, .int t, .int i, .int u, .int j, .int n] GY M Q := by
  refine Ca_of rfl (Nat.le_of_ble_eq_true rfl) ?_
  have hy2 : Y_tr tr (r_sI (r_sI M 0 1 (nI 0)) 0 0 (nI 0)) := Y_tr_S (r_fx.sI rfl (r_fx.sI rfl r_fx.rf)) hy
  refine Ru_aload_n (pc := 0) dX12_pour_0 rfl rfl ?_
  refine Ru_iconst (pc := 1) (nI 0) dX12_pour_1 rfl ?_
  refine Ru_putI (pc := 2) rfl dX12_pour_2 fl_X12_87 rfl ?_
  refine Ru_aload_n (pc := 5) dX12_pour_5 rfl rfl ?_
  refine Ru_iconst (pc := 6) (nI 0) dX12_pour_6 rfl ?_
  refine Ru_putI (pc := 7) rfl dX12_pour_7 fl_X12_90 rfl ?_
  refine Ru_iload_n (pc := 10) dX12_pour_10 rfl rfl ?_
  refine Ru_if_ltT (pc := 11) 28 dX12_pour_11 (by decide) (fun h1 => ?_) (fun h1 => ?_)
  · refine Ru_aload_n (pc := 28) dX12_pour_28 rfl rfl ?_
    refine Ru_iconst (pc := 29) (nI 1) dX12_pour_29 rfl ?_
    refine Ru_cv1 (pc := 30) dX12_pour_30 mv_X12_102 rfl (by decide) (Nat.le_of_ble_eq_true rfl) (c_X12_no ?_) 
    refine Ru_zret (pc := 33) dX12_pour_33 rfl ⟨Nat.le_refl _, Nat.le_refl _⟩ (Or.inl rfl) ?_
    have e : f_pour t i u j n tr = (false, nI 1, tr) := by
      unfold f_pour
      repeat' split
      all_goals first | rfl | (exfalso; omega)
    rw [e] at k
    exact k _ (r_fx.sI rfl (r_fx.sI rfl (r_fx.sI rfl r_fx.rf))) r_sI_s (Y_tr_S (r_fx.sI rfl (r_fx.sI rfl (r_fx.sI rfl r_fx.rf))) hy)
  · refine Ru_iload_n (pc := 14) dX12_pour_14 rfl rfl ?_
    refine Ru_iconst (pc := 15) (nI 4) dX12_pour_15 rfl ?_
    refine Ru_icmp_geL (pc := 16) 28 dX12_pour_16 (by decide) (by omega) (fun h2 => ?_) (fun h2 => ?_)
    · refine Ru_aload_n (pc := 28) dX12_pour_28 rfl rfl ?_
      refine Ru_iconst (pc := 29) (nI 1) dX12_pour_29 rfl ?_
      refine Ru_cv1 (pc := 30) dX12_pour_30 mv_X12_102 rfl (by decide) (Nat.le_of_ble_eq_true rfl) (c_X12_no ?_) 
      refine Ru_zret (pc := 33) dX12_pour_33 rfl ⟨Nat.le_refl _, Nat.le_refl _⟩ (Or.inl rfl) ?_
      have e : f_pour t i u j n tr = (false, nI 1, tr) := by
        unfold f_pour
        repeat' split
        all_goals first | rfl | (exfalso; omega)
      rw [e] at k
      exact k _ (r_fx.sI rfl (r_fx.sI rfl (r_fx.sI rfl r_fx.rf))) r_sI_s (Y_tr_S (r_fx.sI rfl (r_fx.sI rfl (r_fx.sI rfl r_fx.rf))) hy)
    · refine Ru_iload_n (pc := 19) dX12_pour_19 rfl rfl ?_
      refine Ru_if_ltT (pc := 20) 28 dX12_pour_20 (by decide) (fun h3 => ?_) (fun h3 => ?_)
      · refine Ru_aload_n (pc := 28) dX12_pour_28 rfl rfl ?_
        refine Ru_iconst (pc := 29) (nI 1) dX12_pour_29 rfl ?_
        refine Ru_cv1 (pc := 30) dX12_pour_30 mv_X12_102 rfl (by decide) (Nat.le_of_ble_eq_true rfl) (c_X12_no ?_) 
        refine Ru_zret (pc := 33) dX12_pour_33 rfl ⟨Nat.le_refl _, Nat.le_refl _⟩ (Or.inl rfl) ?_
        have e : f_pour t i u j n tr = (false, nI 1, tr) := by
          unfold f_pour
          repeat' split
          all_goals first | rfl | (exfalso; omega)
        rw [e] at k
        exact k _ (r_fx.sI rfl (r_fx.sI rfl (r_fx.sI rfl r_fx.rf))) r_sI_s (Y_tr_S (r_fx.sI rfl (r_fx.sI rfl (r_fx.sI rfl r_fx.rf))) hy)
      · refine Ru_iload_n (pc := 23) dX12_pour_23 rfl rfl ?_
        refine Ru_iconst (pc := 24) (nI 4) dX12_pour_24 rfl ?_
        refine Ru_icmp_ltL (pc := 25) 34 dX12_pour_25 (by decide) (by omega) (fun h4 => ?_) (fun h4 => ?_)
        · obtain ⟨t', ht', rfl⟩ := r_nat (x := t) (n := 4) (by omega) (by decide)
          obtain ⟨u', hu', rfl⟩ := r_nat (x := u) (n := 4) (by omega) (by decide)
          have et := r_tnn (show t' < 2147483648 by omega)
          have et2 := r_tn (show t' < 2147483648 by omega)
          have eu := r_tnn (show u' < 2147483648 by omega)
          have eu2 := r_tn (show u' < 2147483648 by omega)
          have lt := (hy t' ht').2.2.1
          have lu := (hy u' hu').2.2.1
          refine Ru_aload_n (pc := 34) dX12_pour_34 rfl rfl ?_
          refine Ru_getR (pc := 35) 2 dX12_pour_35 fl_X12_17 rfl rfl rfl ?_
          refine Ru_iload_n (pc := 38) dX12_pour_38 rfl rfl ?_
          refine Ru_iald (pc := 39) dX12_pour_39 rfl (by omega) ?_
          refine Ru_top (hy2 t' (by omega)).2.1 ?_
          refine Ru_if_ltT (pc := 40) 52 dX12_pour_40 (by decide) (fun h5 => ?_) (fun h5 => ?_)
          · refine Ru_aload_n (pc := 52) dX12_pour_52 rfl rfl ?_
            refine Ru_iconst (pc := 53) (nI 3) dX12_pour_53 rfl ?_
            refine Ru_cv1 (pc := 54) dX12_pour_54 mv_X12_102 rfl (by decide) (Nat.le_of_ble_eq_true rfl) (c_X12_no ?_) 
            refine Ru_zret (pc := 57) dX12_pour_57 rfl ⟨Nat.le_refl _, Nat.le_refl _⟩ (Or.inl rfl) ?_
            have e : f_pour (nI t') i (nI u') j n tr = (false, nI 3, tr) := by
              unfold f_pour
              rw [et, eu]
              repeat' split
              all_goals first | rfl | (exfalso; omega)
            rw [e] at k
            exact k _ (r_fx.sI rfl (r_fx.sI rfl (r_fx.sI rfl r_fx.rf))) r_sI_s (Y_tr_S (r_fx.sI rfl (r_fx.sI rfl (r_fx.sI rfl r_fx.rf))) hy)
          · refine Ru_aload_n (pc := 43) dX12_pour_43 rfl rfl ?_
            refine Ru_getR (pc := 44) 2 dX12_pour_44 fl_X12_17 rfl rfl rfl ?_
            refine Ru_iload_n (pc := 47) dX12_pour_47 rfl rfl ?_
            refine Ru_iald (pc := 48) dX12_pour_48 rfl (by omega) ?_
            refine Ru_top (hy2 u' (by omega)).2.1 ?_
            refine Ru_if_geT (pc := 49) 58 dX12_pour_49 (by decide) (fun h6 => ?_) (fun h6 => ?_)
            · refine Ru_aload_n (pc := 58) dX12_pour_58 rfl rfl ?_
              refine Ru_getR (pc := 59) 1 dX12_pour_59 fl_X12_13 rfl rfl rfl ?_
              refine Ru_iload_n (pc := 62) dX12_pour_62 rfl rfl ?_
              refine Ru_iald (pc := 63) dX12_pour_63 rfl (by omega) ?_
              refine Ru_top (hy2 t' (by omega)).1 ?_
              refine Ru_aload_n (pc := 64) dX12_pour_64 rfl rfl ?_
              refine Ru_getR (pc := 65) 1 dX12_pour_65 fl_X12_13 rfl rfl rfl ?_
              refine Ru_iload_n (pc := 68) dX12_pour_68 rfl rfl ?_
              refine Ru_iald (pc := 69) dX12_pour_69 rfl (by omega) ?_
              refine Ru_top (hy2 u' (by omega)).1 ?_
              refine Ru_icmp_eqT (pc := 70) 80 dX12_pour_70 (by decide) (fun h7 => ?_) (fun h7 => ?_)
              · refine Ru_iload (pc := 80) dX12_pour_80 rfl ?_
                refine Ru_if_geT (pc := 82) 92 dX12_pour_82 (by decide) (fun h8 => ?_) (fun h8 => ?_)
                · refine Ru_iload_n (pc := 92) dX12_pour_92 rfl rfl ?_
                  refine Ru_if_ltT (pc := 93) 136 dX12_pour_93 (by decide) (fun h9 => ?_) (fun h9 => ?_)
                  · refine Ru_aload_n (pc := 136) dX12_pour_136 rfl rfl ?_
                    refine Ru_iconst (pc := 137) (nI 4) dX12_pour_137 rfl ?_
                    refine Ru_cv1 (pc := 138) dX12_pour_138 mv_X12_102 rfl (by decide) (Nat.le_of_ble_eq_true rfl) (c_X12_no ?_) 
                    refine Ru_zret (pc := 141) dX12_pour_141 rfl ⟨Nat.le_refl _, Nat.le_refl _⟩ (Or.inl rfl) ?_
                    have e : f_pour (nI t') i (nI u') j n tr = (false, nI 4, tr) := by
                      unfold f_pour
                      rw [et, eu]
                      repeat' split
                      all_goals first | rfl | (exfalso; omega)
                    rw [e] at k
                    exact k _ (r_fx.sI rfl (r_fx.sI rfl (r_fx.sI rfl r_fx.rf))) r_sI_s (Y_tr_S (r_fx.sI rfl (r_fx.sI rfl (r_fx.sI rfl r_fx.rf))) hy)
                  · refine Ru_iload (pc := 96) dX12_pour_96 rfl ?_
                    refine Ru_if_ltT (pc := 98) 136 dX12_pour_98 (by decide) (fun h10 => ?_) (fun h10 => ?_)
                    · refine Ru_aload_n (pc := 136) dX12_pour_136 rfl rfl ?_
                      refine Ru_iconst (pc := 137) (nI 4) dX12_pour_137 rfl ?_
                      refine Ru_cv1 (pc := 138) dX12_pour_138 mv_X12_102 rfl (by decide) (Nat.le_of_ble_eq_true rfl) (c_X12_no ?_) 
                      refine Ru_zret (pc := 141) dX12_pour_141 rfl ⟨Nat.le_refl _, Nat.le_refl _⟩ (Or.inl rfl) ?_
                      have e : f_pour (nI t') i (nI u') j n tr = (false, nI 4, tr) := by
                        unfold f_pour
                        rw [et, eu]
                        repeat' split
                        all_goals first | rfl | (exfalso; omega)
                      rw [e] at k
                      exact k _ (r_fx.sI rfl (r_fx.sI rfl (r_fx.sI rfl r_fx.rf))) r_sI_s (Y_tr_S (r_fx.sI rfl (r_fx.sI rfl (r_fx.sI rfl r_fx.rf))) hy)
                    · refine Ru_iload_n (pc := 101) dX12_pour_101 rfl rfl ?_
                      refine Ru_i2l (pc := 102) _ dX12_pour_102 rfl ?_
                      refine Ru_iload (pc := 103) dX12_pour_103 rfl ?_
                      refine Ru_i2l (pc := 105) _ dX12_pour_105 rfl ?_
                      refine Ru_ladd (pc := 106) dX12_pour_106 ?_
                      refine Ru_aload_n (pc := 107) dX12_pour_107 rfl rfl ?_
                      refine Ru_getR (pc := 108) 2 dX12_pour_108 fl_X12_17 rfl rfl rfl ?_
                      refine Ru_iload_n (pc := 111) dX12_pour_111 rfl rfl ?_
                      refine Ru_iald (pc := 112) dX12_pour_112 rfl (by omega) ?_
                      refine Ru_top (hy2 t' (by omega)).2.1 ?_
                      refine Ru_i2l (pc := 113) _ dX12_pour_113 rfl ?_
                      refine Ru_lcmp (pc := 114) dX12_pour_114 ?_
                      refine Ru_if_gtC (pc := 115) 136 dX12_pour_115 (by decide) (fun h11 => ?_) (fun h11 => ?_)
                      · have q1 := r_l2_lt ‹_ < _ + _›
                        refine Ru_aload_n (pc := 136) dX12_pour_136 rfl rfl ?_
                        refine Ru_iconst (pc := 137) (nI 4) dX12_pour_137 rfl ?_
                        refine Ru_cv1 (pc := 138) dX12_pour_138 mv_X12_102 rfl (by decide) (Nat.le_of_ble_eq_true rfl) (c_X12_no ?_) 
                        refine Ru_zret (pc := 141) dX12_pour_141 rfl ⟨Nat.le_refl _, Nat.le_refl _⟩ (Or.inl rfl) ?_
                        have e : f_pour (nI t') i (nI u') j n tr = (false, nI 4, tr) := by
                          unfold f_pour
                          rw [et, eu]
                          repeat' split
                          all_goals first | rfl | (exfalso; omega)
                        rw [e] at k
                        exact k _ (r_fx.sI rfl (r_fx.sI rfl (r_fx.sI rfl r_fx.rf))) r_sI_s (Y_tr_S (r_fx.sI rfl (r_fx.sI rfl (r_fx.sI rfl r_fx.rf))) hy)
                      · have q1 := r_l2_nlt ‹¬ _ < _ + _›
                        refine Ru_iload (pc := 118) dX12_pour_118 rfl ?_
                        refine Ru_i2l (pc := 120) _ dX12_pour_120 rfl ?_
                        refine Ru_iload (pc := 121) dX12_pour_121 rfl ?_
                        refine Ru_i2l (pc := 123) _ dX12_pour_123 rfl ?_
                        refine Ru_ladd (pc := 124) dX12_pour_124 ?_
                        refine Ru_aload_n (pc := 125) dX12_pour_125 rfl rfl ?_
                        refine Ru_getR (pc := 126) 2 dX12_pour_126 fl_X12_17 rfl rfl rfl ?_
                        refine Ru_iload_n (pc := 129) dX12_pour_129 rfl rfl ?_
                        refine Ru_iald (pc := 130) dX12_pour_130 rfl (by omega) ?_
                        refine Ru_top (hy2 u' (by omega)).2.1 ?_
                        refine Ru_i2l (pc := 131) _ dX12_pour_131 rfl ?_
                        refine Ru_lcmp (pc := 132) dX12_pour_132 ?_
                        refine Ru_if_leC (pc := 133) 142 dX12_pour_133 (by decide) (fun h12 => ?_) (fun h12 => ?_)
                        · have q2 := r_l2_le ‹_ + _ ≤ _›
                          refine Ru_iload_n (pc := 142) dX12_pour_142 rfl rfl ?_
                          refine Ru_iload (pc := 143) dX12_pour_143 rfl ?_
                          refine Ru_icmp_geT (pc := 145) 152 dX12_pour_145 (by decide) (fun h13 => ?_) (fun h13 => ?_)
                          · refine Ru_iconst (pc := 152) (nI 0) dX12_pour_152 rfl ?_
                            refine Ru_istore (pc := 153) dX12_pour_153 rfl (by decide) ?_
                            refine Ru_iconst (pc := 155) (nI 0) dX12_pour_155 rfl ?_
                            refine Ru_istore (pc := 156) dX12_pour_156 rfl (by decide) ?_
                            obtain ⟨n', hn', rfl⟩ := r_nat (x := n) (n := 61) (by omega) (by decide)
                            obtain ⟨i', hi', rfl⟩ := r_nat (x := i) (n := 61) (by omega) (by decide)
                            obtain ⟨j', hj', rfl⟩ := r_nat (x := j) (n := 61) (by omega) (by decide)
                            have en := r_tn (show n' < 2147483648 by omega)
                            have ei := r_tn (show i' < 2147483648 by omega)
                            have ej := r_tn (show j' < 2147483648 by omega)
                            have en2 := r_tnn (show n' < 2147483648 by omega)
                            have ei2 := r_tnn (show i' < 2147483648 by omega)
                            have ej2 := r_tnn (show j' < 2147483648 by omega)
                            have e : f_pour (nI t') (nI i') (nI u') (nI j') (nI n') tr = (true, nI 0, fun q => if q = u' then ((tr q).1, (tr q).2.1, fun k => if j' ≤ k ∧ k < j' + n' then (tr t').2.2 (i' + (k - j')) else (tr q).2.2 k) else tr q) := by
                              unfold f_pour
                              rw [et, eu, if_neg (by omega), if_neg (by omega), if_neg (by omega), if_neg (by omega), if_neg (by omega), en2, ei2, ej2]
                            rw [e] at k
                            refine Ru_weak (l_X12_pour0 ht' hu' (i := i') (j := j') (n := n') (by omega) (by omega) (by omega) (fun M' hf hz ho => ?_) n' 0 _ (by omega) (by omega) r_fx.rf (fun p hp hc => by omega) (fun a ha => rfl)) rfl
                            refine k M' ((r_fx.sI rfl (r_fx.sI rfl r_fx.rf)).tr (hf.mono rfl)) ?_ (Y_tr_pour hy ht' hu' (by omega) (by omega) rfl hf hz ho)
                            rw [(hf 0 0 rfl).1]
                            rfl
                          · refine Ru_iconst (pc := 148) (nI 1) dX12_pour_148 rfl ?_
                            refine Ru_goto (pc := 149) 153 dX12_pour_149 (by decide) ?_
                            refine Ru_istore (pc := 153) dX12_pour_153 rfl (by decide) ?_
                            refine Ru_iconst (pc := 155) (nI 0) dX12_pour_155 rfl ?_
                            refine Ru_istore (pc := 156) dX12_pour_156 rfl (by decide) ?_
                            obtain ⟨n', hn', rfl⟩ := r_nat (x := n) (n := 61) (by omega) (by decide)
                            obtain ⟨i', hi', rfl⟩ := r_nat (x := i) (n := 61) (by omega) (by decide)
                            obtain ⟨j', hj', rfl⟩ := r_nat (x := j) (n := 61) (by omega) (by decide)
                            have en := r_tn (show n' < 2147483648 by omega)
                            have ei := r_tn (show i' < 2147483648 by omega)
                            have ej := r_tn (show j' < 2147483648 by omega)
                            have en2 := r_tnn (show n' < 2147483648 by omega)
                            have ei2 := r_tnn (show i' < 2147483648 by omega)
                            have ej2 := r_tnn (show j' < 2147483648 by omega)
                            have e : f_pour (nI t') (nI i') (nI u') (nI j') (nI n') tr = (true, nI 0, fun q => if q = u' then ((tr q).1, (tr q).2.1, fun k => if j' ≤ k ∧ k < j' + n' then (tr t').2.2 (i' + (k - j')) else (tr q).2.2 k) else tr q) := by
                              unfold f_pour
                              rw [et, eu, if_neg (by omega), if_neg (by omega), if_neg (by omega), if_neg (by omega), if_neg (by omega), en2, ei2, ej2]
                            rw [e] at k
                            refine Ru_weak (l_X12_pour1 ht' hu' (i := i') (j := j') (n := n') (by omega) (by omega) (by omega) (fun M' hf hz ho => ?_) n' 0 _ (by omega) (by omega) r_fx.rf (fun p hp hc => by omega) (fun a ha => rfl)) rfl
                            refine k M' ((r_fx.sI rfl (r_fx.sI rfl r_fx.rf)).tr (hf.mono rfl)) ?_ (Y_tr_pour hy ht' hu' (by omega) (by omega) rfl hf hz ho)
                            rw [(hf 0 0 rfl).1]
                            rfl
                        · have q2 := r_l2_nle ‹¬ _ + _ ≤ _›
                          refine Ru_aload_n (pc := 136) dX12_pour_136 rfl rfl ?_
                          refine Ru_iconst (pc := 137) (nI 4) dX12_pour_137 rfl ?_
                          refine Ru_cv1 (pc := 138) dX12_pour_138 mv_X12_102 rfl (by decide) (Nat.le_of_ble_eq_true rfl) (c_X12_no ?_) 
                          refine Ru_zret (pc := 141) dX12_pour_141 rfl ⟨Nat.le_refl _, Nat.le_refl _⟩ (Or.inl rfl) ?_
                          have e : f_pour (nI t') i (nI u') j n tr = (false, nI 4, tr) := by
                            unfold f_pour
                            rw [et, eu]
                            repeat' split
                            all_goals first | rfl | (exfalso; omega)
                          rw [e] at k
                          exact k _ (r_fx.sI rfl (r_fx.sI rfl (r_fx.sI rfl r_fx.rf))) r_sI_s (Y_tr_S (r_fx.sI rfl (r_fx.sI rfl (r_fx.sI rfl r_fx.rf))) hy)
                · refine Ru_aload_n (pc := 85) dX12_pour_85 rfl rfl ?_
                  refine Ru_bipush (pc := 86) (nI 6) dX12_pour_86 rfl ?_
                  refine Ru_cv1 (pc := 88) dX12_pour_88 mv_X12_102 rfl (by decide) (Nat.le_of_ble_eq_true rfl) (c_X12_no ?_) 
                  refine Ru_zret (pc := 91) dX12_pour_91 rfl ⟨Nat.le_refl _, Nat.le_refl _⟩ (Or.inl rfl) ?_
                  have e : f_pour (nI t') i (nI u') j n tr = (false, nI 6, tr) := by
                    unfold f_pour
                    rw [et, eu]
                    repeat' split
                    all_goals first | rfl | (exfalso; omega)
                  rw [e] at k
                  exact k _ (r_fx.sI rfl (r_fx.sI rfl (r_fx.sI rfl r_fx.rf))) r_sI_s (Y_tr_S (r_fx.sI rfl (r_fx.sI rfl (r_fx.sI rfl r_fx.rf))) hy)
              · refine Ru_aload_n (pc := 73) dX12_pour_73 rfl rfl ?_
                refine Ru_bipush (pc := 74) (nI 11) dX12_pour_74 rfl ?_
                refine Ru_cv1 (pc := 76) dX12_pour_76 mv_X12_102 rfl (by decide) (Nat.le_of_ble_eq_true rfl) (c_X12_no ?_) 
                refine Ru_zret (pc := 79) dX12_pour_79 rfl ⟨Nat.le_refl _, Nat.le_refl _⟩ (Or.inl rfl) ?_
                have e : f_pour (nI t') i (nI u') j n tr = (false, nI 11, tr) := by
                  unfold f_pour
                  rw [et, eu]
                  repeat' split
                  all_goals first | rfl | (exfalso; omega)
                rw [e] at k
                exact k _ (r_fx.sI rfl (r_fx.sI rfl (r_fx.sI rfl r_fx.rf))) r_sI_s (Y_tr_S (r_fx.sI rfl (r_fx.sI rfl (r_fx.sI rfl r_fx.rf))) hy)
            · refine Ru_aload_n (pc := 52) dX12_pour_52 rfl rfl ?_
              refine Ru_iconst (pc := 53) (nI 3) dX12_pour_53 rfl ?_
              refine Ru_cv1 (pc := 54) dX12_pour_54 mv_X12_102 rfl (by decide) (Nat.le_of_ble_eq_true rfl) (c_X12_no ?_) 
              refine Ru_zret (pc := 57) dX12_pour_57 rfl ⟨Nat.le_refl _, Nat.le_refl _⟩ (Or.inl rfl) ?_
              have e : f_pour (nI t') i (nI u') j n tr = (false, nI 3, tr) := by
                unfold f_pour
                rw [et, eu]
                repeat' split
                all_goals first | rfl | (exfalso; omega)
              rw [e] at k
              exact k _ (r_fx.sI rfl (r_fx.sI rfl (r_fx.sI rfl r_fx.rf))) r_sI_s (Y_tr_S (r_fx.sI rfl (r_fx.sI rfl (r_fx.sI rfl r_fx.rf))) hy)
        · refine Ru_aload_n (pc := 28) dX12_pour_28 rfl rfl ?_
          refine Ru_iconst (pc := 29) (nI 1) dX12_pour_29 rfl ?_
          refine Ru_cv1 (pc := 30) dX12_pour_30 mv_X12_102 rfl (by decide) (Nat.le_of_ble_eq_true rfl) (c_X12_no ?_) 
          refine Ru_zret (pc := 33) dX12_pour_33 rfl ⟨Nat.le_refl _, Nat.le_refl _⟩ (Or.inl rfl) ?_
          have e : f_pour t i u j n tr = (false, nI 1, tr) := by
            unfold f_pour
            repeat' split
            all_goals first | rfl | (exfalso; omega)
          rw [e] at k
          exact k _ (r_fx.sI rfl (r_fx.sI rfl (r_fx.sI rfl r_fx.rf))) r_sI_s (Y_tr_S (r_fx.sI rfl (r_fx.sI rfl (r_fx.sI rfl r_fx.rf))) hy)
