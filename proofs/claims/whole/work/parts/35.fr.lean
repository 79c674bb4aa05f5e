-- FRAMES: which cells of the memory may have changed
theorem r_sI_g {M : Mem} {o k o' k' : Nat} {v : Int32} : (r_sI M o k v).1 o' k' = if o' = o ∧ k' = k then v else M.1 o' k' := by
  by_cases h : o' = o
  · subst h
    by_cases h2 : k' = k
    · subst h2
      simp [r_sI, upd]
    · simp [r_sI, upd, h2]
  · simp [r_sI, h]
theorem r_sI_s {M : Mem} {o k : Nat} {v : Int32} : (r_sI M o k v).1 o k = v := by simp [r_sI_g]
theorem r_sI_n {M : Mem} {o k o' k' : Nat} {v : Int32} (h : ¬ (o' = o ∧ k' = k)) : (r_sI M o k v).1 o' k' = M.1 o' k' := by rw [r_sI_g, if_neg h]
theorem r_sJ_g {M : Mem} {o k o' k' : Nat} {v : Int64} : (r_sJ M o k v).2.1 o' k' = if o' = o ∧ k' = k then v else M.2.1 o' k' := by
  by_cases h : o' = o
  · subst h
    by_cases h2 : k' = k
    · subst h2
      simp [r_sJ, vp_updL]
    · simp [r_sJ, vp_updL, h2]
  · simp [r_sJ, h]
theorem r_sR_g {M : Mem} {o k o' k' : Nat} {v : Option Nat} : (r_sR M o k v).2.2 o' k' = if o' = o ∧ k' = k then v else M.2.2 o' k' := by
  by_cases h : o' = o
  · subst h
    by_cases h2 : k' = k
    · subst h2
      simp [r_sR, va_up]
    · simp [r_sR, va_up, h2]
  · simp [r_sR, h]
theorem r_sI_J {M : Mem} {o k : Nat} {v : Int32} : (r_sI M o k v).2 = M.2 := rfl
theorem r_sJ_I {M : Mem} {o k : Nat} {v : Int64} : (r_sJ M o k v).1 = M.1 := rfl
theorem r_sJ_R {M : Mem} {o k : Nat} {v : Int64} : (r_sJ M o k v).2.2 = M.2.2 := rfl
theorem r_sR_I {M : Mem} {o k : Nat} {v : Option Nat} : (r_sR M o k v).1 = M.1 := rfl
theorem r_sR_J {M : Mem} {o k : Nat} {v : Option Nat} : (r_sR M o k v).2.1 = M.2.1 := rfl
/-- cell k of o is one of F's, or o one of A's -/
def r_in (F : List (Nat × Nat)) (A : List Nat) (o k : Nat) : Bool := A.contains o || F.contains (o, k)
def r_eq3 (M M' : Mem) (o k : Nat) : Prop := M'.1 o k = M.1 o k ∧ M'.2.1 o k = M.2.1 o k ∧ M'.2.2 o k = M.2.2 o k
def r_fx (F : List (Nat × Nat)) (A : List Nat) (M M' : Mem) : Prop := ∀ o k, r_in F A o k = false → r_eq3 M M' o k
theorem r_fx.rf {F : List (Nat × Nat)} {A : List Nat} {M : Mem} : r_fx F A M M := fun _ _ _ => ⟨rfl, rfl, rfl⟩
theorem r_fx.tr {F : List (Nat × Nat)} {A : List Nat} {M M' M'' : Mem} (h : r_fx F A M M') (g : r_fx F A M' M'') : r_fx F A M M'' := fun o k q =>
  have a := h o k q
  have b := g o k q
  ⟨b.1.trans a.1, b.2.1.trans a.2.1, b.2.2.trans a.2.2⟩
theorem r_in_ne {F : List (Nat × Nat)} {A : List Nat} {o k o' k' : Nat} (hi : r_in F A o k = true) (q : r_in F A o' k' = false) : ¬ (o' = o ∧ k' = k) := by
  rintro ⟨rfl, rfl⟩
  rw [hi] at q
  cases q
theorem r_fx.sI {F : List (Nat × Nat)} {A : List Nat} {M M' : Mem} {o k : Nat} {v : Int32} (hi : r_in F A o k = true) (h : r_fx F A M M') : r_fx F A M (r_sI M' o k v) := fun o' k' q => by
  have a := h o' k' q
  exact ⟨(r_sI_n (r_in_ne hi q)).trans a.1, a.2.1, a.2.2⟩
theorem r_fx.sJ {F : List (Nat × Nat)} {A : List Nat} {M M' : Mem} {o k : Nat} {v : Int64} (hi : r_in F A o k = true) (h : r_fx F A M M') : r_fx F A M (r_sJ M' o k v) := fun o' k' q => by
  have a := h o' k' q
  refine ⟨a.1, ?_, a.2.2⟩
  rw [r_sJ_g, if_neg (r_in_ne hi q)]
  exact a.2.1
theorem r_fx.sR {F : List (Nat × Nat)} {A : List Nat} {M M' : Mem} {o k : Nat} {v : Option Nat} (hi : r_in F A o k = true) (h : r_fx F A M M') : r_fx F A M (r_sR M' o k v) := fun o' k' q => by
  have a := h o' k' q
  refine ⟨a.1, a.2.1, ?_⟩
  rw [r_sR_g, if_neg (r_in_ne hi q)]
  exact a.2.2
theorem r_in_A {F : List (Nat × Nat)} {A : List Nat} {o k : Nat} (h : A.contains o = true) : r_in F A o k = true := by
  unfold r_in
  rw [h]
  rfl
def r_sub2 (F : List (Nat × Nat)) (A : List Nat) (F' : List (Nat × Nat)) (A' : List Nat) : Bool := F.all (fun q => r_in F' A' q.1 q.2) && A.all (fun o => A'.contains o)
theorem r_fx.mono {F F' : List (Nat × Nat)} {A A' : List Nat} {M M' : Mem} (h : r_fx F A M M') (hs : r_sub2 F A F' A' = true) : r_fx F' A' M M' := fun o k q => by
  refine h o k ?_
  simp only [r_sub2, Bool.and_eq_true, List.all_eq_true] at hs
  cases hq : r_in F A o k with
  | false => rfl
  | true =>
    exfalso
    simp only [r_in, Bool.or_eq_true] at hq
    rcases hq with h1 | h1
    · have h2 := hs.2 o (List.contains_iff_mem.mp h1)
      rw [r_in_A h2] at q
      cases q
    · have h2 := hs.1 (o, k) (List.contains_iff_mem.mp h1)
      rw [h2] at q
      cases q
/-- none of the cells of F0, A0 is one of F, A -/
def r_ds (F0 : List (Nat × Nat)) (A0 : List Nat) (F : List (Nat × Nat)) (A : List Nat) : Bool := A0.all (fun o => !A.contains o && F.all (fun q => !(q.1 == o))) && F0.all (fun q => !r_in F A q.1 q.2)
theorem r_fx.at {F : List (Nat × Nat)} {A : List Nat} {F0 : List (Nat × Nat)} {A0 : List Nat} {M M' : Mem} (h : r_fx F A M M') (hs : r_ds F0 A0 F A = true) {o k : Nat} (hi : r_in F0 A0 o k = true) : r_eq3 M M' o k := by
  refine h o k ?_
  simp only [r_ds, Bool.and_eq_true, List.all_eq_true, Bool.not_eq_true', beq_eq_false_iff_ne] at hs
  simp only [r_in, Bool.or_eq_true] at hi
  rcases hi with h1 | h1
  · have h2 := hs.1 o (List.contains_iff_mem.mp h1)
    cases hq : r_in F A o k with
    | false => rfl
    | true =>
      exfalso
      simp only [r_in, Bool.or_eq_true] at hq
      rcases hq with h3 | h3
      · rw [h2.1] at h3
        cases h3
      · exact h2.2 (o, k) (List.contains_iff_mem.mp h3) rfl
  · exact hs.2 (o, k) (List.contains_iff_mem.mp h1)
/-- P speaks of the cells of F0, A0 only -/
def r_dp (F0 : List (Nat × Nat)) (A0 : List Nat) (P : Mem → Prop) : Prop := ∀ M M' : Mem, (∀ o k, r_in F0 A0 o k = true → r_eq3 M M' o k) → P M → P M'
theorem r_dp.kp {F : List (Nat × Nat)} {A : List Nat} {F0 : List (Nat × Nat)} {A0 : List Nat} {P : Mem → Prop} {M M' : Mem} (hp : r_dp F0 A0 P) (h : r_fx F A M M') (hs : r_ds F0 A0 F A = true) (p : P M) : P M' := hp M M' (fun _ _ hi => h.at hs hi) p
-- ints as numbers
theorem r_nat {x : Int32} {n : Nat} (h : 0 ≤ x.toInt ∧ x.toInt < n) (hn : n < 2147483648) : ∃ t, t < n ∧ x = nI t := by
  refine ⟨x.toInt.toNat, by omega, ?_⟩
  apply Int32.toInt_inj.mp
  rw [nI_toInt (show x.toInt.toNat < 2 ^ 31 by omega)]
  omega
theorem r_tn {n : Nat} (h : n < 2147483648) : (nI n).toInt = (n : Int) := nI_toInt (show n < 2 ^ 31 by omega)
