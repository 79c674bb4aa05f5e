-- THE LAW's START: what the tables and the Statement give
theorem lw_kn1 {s : State} {args : Array Value} (hts : ∀ w ∈ lw_tbl, w.before args s = true) {ci N n : Nat} {C : String} {T : u_T} (hcl : r_cl ci C T N) (hi : Cond.instantiable C n ∈ r_W) : ∃ q : ClassId × (Nat → Nat), ∀ r : vw_C, vwCl[ci]? = some r → u_Kn s r.1 r.2.1 r.2.2 q.1 q.2 := by
  obtain ⟨cC, iS, h⟩ := u_known hts (fun w hw => (List.mem_filter.mp (hcl.2.1 w hw)).1) (hts _ (List.mem_filter.mp hi).1)
  refine ⟨(cC, iS), fun r hr => ?_⟩
  rw [hcl.1] at hr
  cases hr
  exact h
theorem lw_i0 : Cond.instantiable RX0 15 ∈ r_W := r_W_of (by decide +kernel) (by decide +kernel)
theorem lw_i1 : Cond.instantiable RX1 13 ∈ r_W := r_W_of (by decide +kernel) (by decide +kernel)
theorem lw_i2 : Cond.instantiable RX2 6 ∈ r_W := r_W_of (by decide +kernel) (by decide +kernel)
theorem lw_i3 : Cond.instantiable RX3 3 ∈ r_W := r_W_of (by decide +kernel) (by decide +kernel)
theorem lw_i4 : Cond.instantiable RX4 9 ∈ r_W := r_W_of (by decide +kernel) (by decide +kernel)
theorem lw_i5 : Cond.instantiable RX5 6 ∈ r_W := r_W_of (by decide +kernel) (by decide +kernel)
theorem lw_i6 : Cond.instantiable RX6 3 ∈ r_W := r_W_of (by decide +kernel) (by decide +kernel)
theorem lw_i7 : Cond.instantiable RX7 2 ∈ r_W := r_W_of (by decide +kernel) (by decide +kernel)
theorem lw_i8 : Cond.instantiable RX8 9 ∈ r_W := r_W_of (by decide +kernel) (by decide +kernel)
theorem lw_i9 : Cond.instantiable RX9 21 ∈ r_W := r_W_of (by decide +kernel) (by decide +kernel)
theorem lw_i10 : Cond.instantiable RX10 3 ∈ r_W := r_W_of (by decide +kernel) (by decide +kernel)
theorem lw_i11 : Cond.instantiable RX11 14 ∈ r_W := r_W_of (by decide +kernel) (by decide +kernel)
theorem lw_i12 : Cond.instantiable RX12 60 ∈ r_W := r_W_of (by decide +kernel) (by decide +kernel)
theorem lw_arrT {s : State} {args : Array Value} {t : FieldType} (h : (Cond.arrayClass t).before args s = true) (ht : ∀ C, t ≠ .object C) : ∃ cA : ClassId, ArrOfT s cA t ∧ va_RA s cA t := by
  obtain ⟨c, k, comp, h1, h2, h3⟩ := Cond.arrayClass_spec h
  refine ⟨c, fun _ _ => ⟨fun _ h9 => (by cases h9), k, h2, comp, h3⟩, ?_⟩
  cases t <;> first | exact h1 | exact absurd rfl (ht _)
theorem lw_arrO {s : State} {args : Array Value} {C : String} (h : (Cond.arrayOver (.object C)).before args s = true) : ∃ cA : ClassId, ArrOfT s cA (.object C) ∧ va_RA s cA (.object C) := by
  obtain ⟨comp, c, k, h1, h2, h3, h4, h5⟩ := Cond.arrayOver_spec h
  exact ⟨c, fun _ _ => ⟨fun _ h9 => (by cases h9), k, h3, comp, h4⟩, k, comp, h3, h4, h1, h5⟩
theorem lw_known {s : State} {args : Array Value} (hts : ∀ w ∈ lw_tbl, w.before args s = true) : ∃ (D : va_G) (cA : Nat → ClassId), va_K D vwCl (r_tys cA) s := by
  have hk : ∀ c : Nat, ∃ q : ClassId × (Nat → Nat), ∀ r : vw_C, vwCl[c]? = some r → u_Kn s r.1 r.2.1 r.2.2 q.1 q.2 := by
    intro c
    match c with
    | 0 => exact lw_kn1 hts rc_0 lw_i0
    | 1 => exact lw_kn1 hts rc_1 lw_i1
    | 2 => exact lw_kn1 hts rc_2 lw_i2
    | 3 => exact lw_kn1 hts rc_3 lw_i3
    | 4 => exact lw_kn1 hts rc_4 lw_i4
    | 5 => exact lw_kn1 hts rc_5 lw_i5
    | 6 => exact lw_kn1 hts rc_6 lw_i6
    | 7 => exact lw_kn1 hts rc_7 lw_i7
    | 8 => exact lw_kn1 hts rc_8 lw_i8
    | 9 => exact lw_kn1 hts rc_9 lw_i9
    | 10 => exact lw_kn1 hts rc_10 lw_i10
    | 11 => exact lw_kn1 hts rc_11 lw_i11
    | 12 => exact lw_kn1 hts rc_12 lw_i12
    | n + 13 => exact ⟨(0, fun _ => 0), fun r hr => by simp [vwCl] at hr⟩
  obtain ⟨q, hq⟩ := Classical.axiomOfChoice hk
  obtain ⟨c0, a0⟩ := lw_arrT (t := .int) (hts _ (by decide +kernel)) (fun _ h => by cases h)
  obtain ⟨c1, a1⟩ := lw_arrT (t := .long) (hts _ (by decide +kernel)) (fun _ h => by cases h)
  obtain ⟨c2, a2⟩ := lw_arrT (t := .byte) (hts _ (by decide +kernel)) (fun _ h => by cases h)
  obtain ⟨c3, a3⟩ := lw_arrT (t := .boolean) (hts _ (by decide +kernel)) (fun _ h => by cases h)
  obtain ⟨c4, a4⟩ := lw_arrO (C := RX9) (hts _ (by decide +kernel))
  obtain ⟨c5, a5⟩ := lw_arrO (C := RX10) (hts _ (by decide +kernel))
  refine ⟨(fun c => (q c).1, fun c => (q c).2), fun k => match k with
    | 0 => c0
    | 1 => c1
    | 2 => c2
    | 3 => c3
    | 4 => c4
    | _ => c5, fun c r hr => hq c r hr, fun k r hr => ?_⟩
  match k with
  | 0 => cases hr; exact a0
  | 1 => cases hr; exact a1
  | 2 => cases hr; exact a2
  | 3 => cases hr; exact a3
  | 4 => cases hr; exact a4
  | 5 => cases hr; exact a5
  | n + 6 => simp [r_tys] at hr
theorem lw_nest {s : State} {args : Array Value} (hts : ∀ w ∈ lw_tbl, w.before args s = true) : r_Nst s := by
  refine ⟨fun q hq => ?_, va_AO.of (hts _ (by decide +kernel)), va_AO.of (hts _ (by decide +kernel))⟩
  have h : ∀ q ∈ r_nest, Cond.methodLinkNest q.1 q.2.1 q.2.2.1 q.2.2.2 ∈ lw_tbl := by decide +kernel
  exact va_Nw.of rfl (hts _ (h q hq))
