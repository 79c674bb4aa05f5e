abbrev r_z : (Nat × Nat) × (Nat × Nat) := ((0, 0), (0, 0))
def r_push (r : Option Value) (st : List Value) : List Value := match r with
  | none => st
  | some v => v :: st
theorem r_push_eq (r : Option Value) (st : List Value) : r.toList ++ st = r_push r st := by cases r <;> rfl
section RX
variable {d : Nat} {mt : Mt} {pc : Nat} {L : Ls} {rest : List Value} {G : Wd} {M : Mem} {Q : Rq}
theorem Ru_cv0 {d' idx ci N o : Nat} {mt' : Mt} (hd : decode mt.2.1 pc = .ok (.invokevirtual idx, 3)) (hm : r_mv mt.1.cls idx mt' 0 ci N) (hs : G.1[o]? = some (ci, N)) (hdd : d' + 1 ≤ d) (hw : (rest.map fun v => v.category).sum ≤ 8) (kk : Ca d' mt' 0 0 [.ref o] G M (fun r G' M' => Ru d mt r_z (pc + 3) L (r_push r rest) G' M' Q)) : Ru d mt r_z pc L (.ref o :: rest) G M Q :=
  Ru_callV (a := r_z) (As := []) (rest := rest) hd hm hs hdd rfl rfl hw ⟨Nat.le_refl _, Nat.le_refl _⟩ (by simp only [r_push_eq]; exact kk)
theorem Ru_cs0 {d' idx : Nat} {mt' : Mt} (hd : decode mt.2.1 pc = .ok (.invokestatic idx, 3)) (hm : r_ms mt.1.cls idx mt' 0) (hdd : d' + 1 ≤ d) (hw : (rest.map fun v => v.category).sum ≤ 8) (kk : Ca d' mt' 0 0 [] G M (fun r G' M' => Ru d mt r_z (pc + 3) L (r_push r rest) G' M' Q)) : Ru d mt r_z pc L (rest) G M Q :=
  Ru_callS (a := r_z) (As := []) (rest := rest) hd hm hdd rfl rfl hw ⟨Nat.le_refl _, Nat.le_refl _⟩ (by simp only [r_push_eq]; exact kk)
theorem Ru_cv1 {d' idx ci N o : Nat} {mt' : Mt} {v1 : Value} (hd : decode mt.2.1 pc = .ok (.invokevirtual idx, 3)) (hm : r_mv mt.1.cls idx mt' 1 ci N) (hs : G.1[o]? = some (ci, N)) (hdd : d' + 1 ≤ d) (hw : (rest.map fun v => v.category).sum ≤ 8) (kk : Ca d' mt' 0 0 [.ref o, v1] G M (fun r G' M' => Ru d mt r_z (pc + 3) L (r_push r rest) G' M' Q)) : Ru d mt r_z pc L (v1 :: .ref o :: rest) G M Q :=
  Ru_callV (a := r_z) (As := [v1]) (rest := rest) hd hm hs hdd rfl rfl hw ⟨Nat.le_refl _, Nat.le_refl _⟩ (by simp only [r_push_eq]; exact kk)
theorem Ru_cs1 {d' idx : Nat} {mt' : Mt} {v1 : Value} (hd : decode mt.2.1 pc = .ok (.invokestatic idx, 3)) (hm : r_ms mt.1.cls idx mt' 1) (hdd : d' + 1 ≤ d) (hw : (rest.map fun v => v.category).sum ≤ 8) (kk : Ca d' mt' 0 0 [v1] G M (fun r G' M' => Ru d mt r_z (pc + 3) L (r_push r rest) G' M' Q)) : Ru d mt r_z pc L (v1 :: rest) G M Q :=
  Ru_callS (a := r_z) (As := [v1]) (rest := rest) hd hm hdd rfl rfl hw ⟨Nat.le_refl _, Nat.le_refl _⟩ (by simp only [r_push_eq]; exact kk)
theorem Ru_cv2 {d' idx ci N o : Nat} {mt' : Mt} {v1 v2 : Value} (hd : decode mt.2.1 pc = .ok (.invokevirtual idx, 3)) (hm : r_mv mt.1.cls idx mt' 2 ci N) (hs : G.1[o]? = some (ci, N)) (hdd : d' + 1 ≤ d) (hw : (rest.map fun v => v.category).sum ≤ 8) (kk : Ca d' mt' 0 0 [.ref o, v1, v2] G M (fun r G' M' => Ru d mt r_z (pc + 3) L (r_push r rest) G' M' Q)) : Ru d mt r_z pc L (v2 :: v1 :: .ref o :: rest) G M Q :=
  Ru_callV (a := r_z) (As := [v1, v2]) (rest := rest) hd hm hs hdd rfl rfl hw ⟨Nat.le_refl _, Nat.le_refl _⟩ (by simp only [r_push_eq]; exact kk)
theorem Ru_cs2 {d' idx : Nat} {mt' : Mt} {v1 v2 : Value} (hd : decode mt.2.1 pc = .ok (.invokestatic idx, 3)) (hm : r_ms mt.1.cls idx mt' 2) (hdd : d' + 1 ≤ d) (hw : (rest.map fun v => v.category).sum ≤ 8) (kk : Ca d' mt' 0 0 [v1, v2] G M (fun r G' M' => Ru d mt r_z (pc + 3) L (r_push r rest) G' M' Q)) : Ru d mt r_z pc L (v2 :: v1 :: rest) G M Q :=
  Ru_callS (a := r_z) (As := [v1, v2]) (rest := rest) hd hm hdd rfl rfl hw ⟨Nat.le_refl _, Nat.le_refl _⟩ (by simp only [r_push_eq]; exact kk)
theorem Ru_cv3 {d' idx ci N o : Nat} {mt' : Mt} {v1 v2 v3 : Value} (hd : decode mt.2.1 pc = .ok (.invokevirtual idx, 3)) (hm : r_mv mt.1.cls idx mt' 3 ci N) (hs : G.1[o]? = some (ci, N)) (hdd : d' + 1 ≤ d) (hw : (rest.map fun v => v.category).sum ≤ 8) (kk : Ca d' mt' 0 0 [.ref o, v1, v2, v3] G M (fun r G' M' => Ru d mt r_z (pc + 3) L (r_push r rest) G' M' Q)) : Ru d mt r_z pc L (v3 :: v2 :: v1 :: .ref o :: rest) G M Q :=
  Ru_callV (a := r_z) (As := [v1, v2, v3]) (rest := rest) hd hm hs hdd rfl rfl hw ⟨Nat.le_refl _, Nat.le_refl _⟩ (by simp only [r_push_eq]; exact kk)
theorem Ru_cs3 {d' idx : Nat} {mt' : Mt} {v1 v2 v3 : Value} (hd : decode mt.2.1 pc = .ok (.invokestatic idx, 3)) (hm : r_ms mt.1.cls idx mt' 3) (hdd : d' + 1 ≤ d) (hw : (rest.map fun v => v.category).sum ≤ 8) (kk : Ca d' mt' 0 0 [v1, v2, v3] G M (fun r G' M' => Ru d mt r_z (pc + 3) L (r_push r rest) G' M' Q)) : Ru d mt r_z pc L (v3 :: v2 :: v1 :: rest) G M Q :=
  Ru_callS (a := r_z) (As := [v1, v2, v3]) (rest := rest) hd hm hdd rfl rfl hw ⟨Nat.le_refl _, Nat.le_refl _⟩ (by simp only [r_push_eq]; exact kk)
theorem Ru_cv4 {d' idx ci N o : Nat} {mt' : Mt} {v1 v2 v3 v4 : Value} (hd : decode mt.2.1 pc = .ok (.invokevirtual idx, 3)) (hm : r_mv mt.1.cls idx mt' 4 ci N) (hs : G.1[o]? = some (ci, N)) (hdd : d' + 1 ≤ d) (hw : (rest.map fun v => v.category).sum ≤ 8) (kk : Ca d' mt' 0 0 [.ref o, v1, v2, v3, v4] G M (fun r G' M' => Ru d mt r_z (pc + 3) L (r_push r rest) G' M' Q)) : Ru d mt r_z pc L (v4 :: v3 :: v2 :: v1 :: .ref o :: rest) G M Q :=
  Ru_callV (a := r_z) (As := [v1, v2, v3, v4]) (rest := rest) hd hm hs hdd rfl rfl hw ⟨Nat.le_refl _, Nat.le_refl _⟩ (by simp only [r_push_eq]; exact kk)
theorem Ru_cs4 {d' idx : Nat} {mt' : Mt} {v1 v2 v3 v4 : Value} (hd : decode mt.2.1 pc = .ok (.invokestatic idx, 3)) (hm : r_ms mt.1.cls idx mt' 4) (hdd : d' + 1 ≤ d) (hw : (rest.map fun v => v.category).sum ≤ 8) (kk : Ca d' mt' 0 0 [v1, v2, v3, v4] G M (fun r G' M' => Ru d mt r_z (pc + 3) L (r_push r rest) G' M' Q)) : Ru d mt r_z pc L (v4 :: v3 :: v2 :: v1 :: rest) G M Q :=
  Ru_callS (a := r_z) (As := [v1, v2, v3, v4]) (rest := rest) hd hm hdd rfl rfl hw ⟨Nat.le_refl _, Nat.le_refl _⟩ (by simp only [r_push_eq]; exact kk)
theorem Ru_cv5 {d' idx ci N o : Nat} {mt' : Mt} {v1 v2 v3 v4 v5 : Value} (hd : decode mt.2.1 pc = .ok (.invokevirtual idx, 3)) (hm : r_mv mt.1.cls idx mt' 5 ci N) (hs : G.1[o]? = some (ci, N)) (hdd : d' + 1 ≤ d) (hw : (rest.map fun v => v.category).sum ≤ 8) (kk : Ca d' mt' 0 0 [.ref o, v1, v2, v3, v4, v5] G M (fun r G' M' => Ru d mt r_z (pc + 3) L (r_push r rest) G' M' Q)) : Ru d mt r_z pc L (v5 :: v4 :: v3 :: v2 :: v1 :: .ref o :: rest) G M Q :=
  Ru_callV (a := r_z) (As := [v1, v2, v3, v4, v5]) (rest := rest) hd hm hs hdd rfl rfl hw ⟨Nat.le_refl _, Nat.le_refl _⟩ (by simp only [r_push_eq]; exact kk)
theorem Ru_cs5 {d' idx : Nat} {mt' : Mt} {v1 v2 v3 v4 v5 : Value} (hd : decode mt.2.1 pc = .ok (.invokestatic idx, 3)) (hm : r_ms mt.1.cls idx mt' 5) (hdd : d' + 1 ≤ d) (hw : (rest.map fun v => v.category).sum ≤ 8) (kk : Ca d' mt' 0 0 [v1, v2, v3, v4, v5] G M (fun r G' M' => Ru d mt r_z (pc + 3) L (r_push r rest) G' M' Q)) : Ru d mt r_z pc L (v5 :: v4 :: v3 :: v2 :: v1 :: rest) G M Q :=
  Ru_callS (a := r_z) (As := [v1, v2, v3, v4, v5]) (rest := rest) hd hm hdd rfl rfl hw ⟨Nat.le_refl _, Nat.le_refl _⟩ (by simp only [r_push_eq]; exact kk)
theorem Ru_cv6 {d' idx ci N o : Nat} {mt' : Mt} {v1 v2 v3 v4 v5 v6 : Value} (hd : decode mt.2.1 pc = .ok (.invokevirtual idx, 3)) (hm : r_mv mt.1.cls idx mt' 6 ci N) (hs : G.1[o]? = some (ci, N)) (hdd : d' + 1 ≤ d) (hw : (rest.map fun v => v.category).sum ≤ 8) (kk : Ca d' mt' 0 0 [.ref o, v1, v2, v3, v4, v5, v6] G M (fun r G' M' => Ru d mt r_z (pc + 3) L (r_push r rest) G' M' Q)) : Ru d mt r_z pc L (v6 :: v5 :: v4 :: v3 :: v2 :: v1 :: .ref o :: rest) G M Q :=
  Ru_callV (a := r_z) (As := [v1, v2, v3, v4, v5, v6]) (rest := rest) hd hm hs hdd rfl rfl hw ⟨Nat.le_refl _, Nat.le_refl _⟩ (by simp only [r_push_eq]; exact kk)
theorem Ru_cs6 {d' idx : Nat} {mt' : Mt} {v1 v2 v3 v4 v5 v6 : Value} (hd : decode mt.2.1 pc = .ok (.invokestatic idx, 3)) (hm : r_ms mt.1.cls idx mt' 6) (hdd : d' + 1 ≤ d) (hw : (rest.map fun v => v.category).sum ≤ 8) (kk : Ca d' mt' 0 0 [v1, v2, v3, v4, v5, v6] G M (fun r G' M' => Ru d mt r_z (pc + 3) L (r_push r rest) G' M' Q)) : Ru d mt r_z pc L (v6 :: v5 :: v4 :: v3 :: v2 :: v1 :: rest) G M Q :=
  Ru_callS (a := r_z) (As := [v1, v2, v3, v4, v5, v6]) (rest := rest) hd hm hdd rfl rfl hw ⟨Nat.le_refl _, Nat.le_refl _⟩ (by simp only [r_push_eq]; exact kk)
def r_wI (M : Mem) (o : Nat) (f : Nat → Int32) : Mem := (fun o' => if o' = o then f else M.1 o', M.2.1, M.2.2)
def r_wJ (M : Mem) (o : Nat) (f : Nat → Int64) : Mem := (M.1, fun o' => if o' = o then f else M.2.1 o', M.2.2)
theorem r_wI_el {G : Wd} {cA : Nat → ClassId} {ad : Nat → Nat} {M : Mem} {o : Nat} {f : Nat → Int32} (o' : Nat) (sh' : Nat × Nat) (h : o' ≠ o) : r_el G cA ad (r_wI M o f) o' sh' = r_el G cA ad M o' sh' := by
  have e : (r_wI M o f).1 o' = M.1 o' := by simp [r_wI, h]
  have e2 : r_fs G ad (r_wI M o f) o' sh'.1 sh'.2 = r_fs G ad M o' sh'.1 sh'.2 := by
    unfold r_fs
    apply List.map_congr_left
    intro j _
    unfold r_fv
    split <;> first | rfl | (rw [e])
  unfold r_el
  rw [e2, e]
  rfl
theorem r_wJ_el {G : Wd} {cA : Nat → ClassId} {ad : Nat → Nat} {M : Mem} {o : Nat} {f : Nat → Int64} (o' : Nat) (sh' : Nat × Nat) (h : o' ≠ o) : r_el G cA ad (r_wJ M o f) o' sh' = r_el G cA ad M o' sh' := by
  have e : (r_wJ M o f).2.1 o' = M.2.1 o' := by simp [r_wJ, h]
  have e2 : r_fs G ad (r_wJ M o f) o' sh'.1 sh'.2 = r_fs G ad M o' sh'.1 sh'.2 := by
    unfold r_fs
    apply List.map_congr_left
    intro j _
    unfold r_fv
    split <;> first | rfl | (rw [e])
  unfold r_el
  rw [e2, e]
  rfl
def r_cp (own : String) (idx : Nat) : Prop := Cond.methodLink own idx arraycopyName ∈ r_W ∧ Cond.native arraycopyName ∈ r_W ∧ Cond.static arraycopyName ∈ r_W ∧ Cond.initialized "java/lang/System" ∈ r_W
theorem Ru_copyI {idx o0 o1 n0 n1 sp dp n : Nat} (hg0 : G.2.2 = false) (hd : decode mt.2.1 pc = .ok (.invokestatic idx, 3)) (hm : r_cp mt.1.cls idx) (hs0 : G.1[o0]? = some (100, n0)) (hs1 : G.1[o1]? = some (100, n1)) (h4 : sp + n ≤ n0 ∧ n0 < 2147483648) (h5 : dp + n ≤ n1 ∧ n1 < 2147483648) (hdd : 1 ≤ d) (hw : (rest.map fun v => v.category).sum ≤ 8)
    (kk : Ru d mt r_z (pc + 3) L rest G (r_wI M o1 (va_cpy (M.1 o0) (M.1 o1) sp dp n)) Q) : Ru d mt r_z pc L (.int (nI n) :: .int (nI dp) :: .ref o1 :: .int (nI sp) :: .ref o0 :: rest) G M Q := by
  intro D cA ad p l e s m args below meth c H locs ls A C
  obtain ⟨⟨hx, hb, hml, hown, hts⟩, h2, h3, h6, hK, hP, hD, hS, hA, hL, hg, hZ⟩ := C
  have he0 := (r_wo_get (cA := cA) (ad := ad) (M := M) hs0).trans (by rw [r_el_int (Or.inl rfl)])
  have he1 := (r_wo_get (cA := cA) (ad := ad) (M := M) hs1).trans (by rw [r_el_int (Or.inl rfl)])
  have ht := fun w (h : w ∈ r_W) => hts w (List.mem_cons_of_mem _ h)
  have e1 : (nI sp).toNatClampNeg = sp := nI_clamp (show sp < 2 ^ 31 by omega)
  have e2 : (nI dp).toNatClampNeg = dp := nI_clamp (show dp < 2 ^ 31 by omega)
  have e3 : (nI n).toNatClampNeg = n := nI_clamp (show n < 2 ^ 31 by omega)
  have hww : ((rest.map (r_cv ad)).map fun v => v.category).sum ≤ 8 := by
    rw [List.map_map]; exact Nat.le_trans (Nat.le_of_eq (by congr 1; apply List.map_congr_left; intro v _; exact r_cv_cat ad v)) hw
  refine va_copyi hx hb (hml.trans hL.1.symm) hown (ht _ hm.1) (ht _ hm.2.1) (ht _ hm.2.2.1) (ht _ hm.2.2.2) hK hP hD hS o0 o1 0 0 he0 he1 (ty := .int) rfl rfl rfl (nI_pos (show sp < 2 ^ 31 by omega)) (nI_pos (show dp < 2 ^ 31 by omega)) (nI_pos (show n < 2 ^ 31 by omega)) (by rw [e1, e3]; exact h4.1) (by rw [e2, e3]; exact h5.1) (fun _ _ => rfl) hdd ?_ hd fun H1 locs1 q1 q2 q3 => ?_
  · have : nativeFrameWords "java/lang/System" "arraycopy" 5 = 7 := by decide
    rw [this]
    show _ ≤ 48 * d
    omega
  · rw [e1, e2, e3, r_wo_set (M' := r_wI M o1 (va_cpy (M.1 o0) (M.1 o1) sp dp n)) hs1 (by rw [r_el_int (Or.inl rfl)]; simp [r_wI]) (fun o' sh' h => r_wI_el o' sh' h)] at q1 q2
    exact kk D cA ad p l e s m args below meth c H1 locs1 ls A ⟨⟨hx, hb, hml, hown, hts⟩, h2, h3, h6, hK, q1, q2, q3, hA, hL, r_gr_f hg0, hZ⟩
theorem Ru_copyJ {idx o0 o1 n0 n1 sp dp n : Nat} (hg0 : G.2.2 = false) (hd : decode mt.2.1 pc = .ok (.invokestatic idx, 3)) (hm : r_cp mt.1.cls idx) (hs0 : G.1[o0]? = some (101, n0)) (hs1 : G.1[o1]? = some (101, n1)) (h4 : sp + n ≤ n0 ∧ n0 < 2147483648) (h5 : dp + n ≤ n1 ∧ n1 < 2147483648) (hdd : 1 ≤ d) (hw : (rest.map fun v => v.category).sum ≤ 8)
    (kk : Ru d mt r_z (pc + 3) L rest G (r_wJ M o1 (va_cpy (M.2.1 o0) (M.2.1 o1) sp dp n)) Q) : Ru d mt r_z pc L (.int (nI n) :: .int (nI dp) :: .ref o1 :: .int (nI sp) :: .ref o0 :: rest) G M Q := by
  intro D cA ad p l e s m args below meth c H locs ls A C
  obtain ⟨⟨hx, hb, hml, hown, hts⟩, h2, h3, h6, hK, hP, hD, hS, hA, hL, hg, hZ⟩ := C
  have he0 := (r_wo_get (cA := cA) (ad := ad) (M := M) hs0).trans (by rw [r_el_long])
  have he1 := (r_wo_get (cA := cA) (ad := ad) (M := M) hs1).trans (by rw [r_el_long])
  have ht := fun w (h : w ∈ r_W) => hts w (List.mem_cons_of_mem _ h)
  have e1 : (nI sp).toNatClampNeg = sp := nI_clamp (show sp < 2 ^ 31 by omega)
  have e2 : (nI dp).toNatClampNeg = dp := nI_clamp (show dp < 2 ^ 31 by omega)
  have e3 : (nI n).toNatClampNeg = n := nI_clamp (show n < 2 ^ 31 by omega)
  have hww : ((rest.map (r_cv ad)).map fun v => v.category).sum ≤ 8 := by
    rw [List.map_map]; exact Nat.le_trans (Nat.le_of_eq (by congr 1; apply List.map_congr_left; intro v _; exact r_cv_cat ad v)) hw
  refine va_copyl hx hb (hml.trans hL.1.symm) hown (ht _ hm.1) (ht _ hm.2.1) (ht _ hm.2.2.1) (ht _ hm.2.2.2) hK hP hD hS o0 o1 1 1 he0 he1 (ty := .long) rfl rfl rfl (nI_pos (show sp < 2 ^ 31 by omega)) (nI_pos (show dp < 2 ^ 31 by omega)) (nI_pos (show n < 2 ^ 31 by omega)) (by rw [e1, e3]; exact h4.1) (by rw [e2, e3]; exact h5.1) (fun _ _ => rfl) hdd ?_ hd fun H1 locs1 q1 q2 q3 => ?_
  · have : nativeFrameWords "java/lang/System" "arraycopy" 5 = 7 := by decide
    rw [this]
    show _ ≤ 48 * d
    omega
  · rw [e1, e2, e3, r_wo_set (M' := r_wJ M o1 (va_cpy (M.2.1 o0) (M.2.1 o1) sp dp n)) hs1 (by rw [r_el_long]; simp [r_wJ]) (fun o' sh' h => r_wJ_el o' sh' h)] at q1 q2
    exact kk D cA ad p l e s m args below meth c H1 locs1 ls A ⟨⟨hx, hb, hml, hown, hts⟩, h2, h3, h6, hK, q1, q2, q3, hA, hL, r_gr_f hg0, hZ⟩
end RX
theorem cp_X11 : r_cp RX11 131 := ⟨r_W_of (List.mem_append_right _ (List.mem_of_getElem? (i := 660) (by decide +kernel))) (by decide +kernel), r_W_of (List.mem_append_right _ (List.mem_of_getElem? (i := 662) (by decide +kernel))) (by decide +kernel), r_W_of (List.mem_append_right _ (List.mem_of_getElem? (i := 661) (by decide +kernel))) (by decide +kernel), r_W_of (List.mem_append_right _ (List.mem_of_getElem? (i := 19) (by decide +kernel))) (by decide +kernel)⟩
theorem cp_X0 : r_cp RX0 62 := ⟨r_W_of (List.mem_append_right _ (List.mem_of_getElem? (i := 1120) (by decide +kernel))) (by decide +kernel), r_W_of (List.mem_append_right _ (List.mem_of_getElem? (i := 662) (by decide +kernel))) (by decide +kernel), r_W_of (List.mem_append_right _ (List.mem_of_getElem? (i := 661) (by decide +kernel))) (by decide +kernel), r_W_of (List.mem_append_right _ (List.mem_of_getElem? (i := 19) (by decide +kernel))) (by decide +kernel)⟩
theorem cp_X1 : r_cp RX1 71 := ⟨r_W_of (List.mem_append_right _ (List.mem_of_getElem? (i := 1306) (by decide +kernel))) (by decide +kernel), r_W_of (List.mem_append_right _ (List.mem_of_getElem? (i := 662) (by decide +kernel))) (by decide +kernel), r_W_of (List.mem_append_right _ (List.mem_of_getElem? (i := 661) (by decide +kernel))) (by decide +kernel), r_W_of (List.mem_append_right _ (List.mem_of_getElem? (i := 19) (by decide +kernel))) (by decide +kernel)⟩
theorem cp_X3 : r_cp RX3 32 := ⟨r_W_of (List.mem_append_right _ (List.mem_of_getElem? (i := 1340) (by decide +kernel))) (by decide +kernel), r_W_of (List.mem_append_right _ (List.mem_of_getElem? (i := 662) (by decide +kernel))) (by decide +kernel), r_W_of (List.mem_append_right _ (List.mem_of_getElem? (i := 661) (by decide +kernel))) (by decide +kernel), r_W_of (List.mem_append_right _ (List.mem_of_getElem? (i := 19) (by decide +kernel))) (by decide +kernel)⟩
theorem cp_X9 : r_cp RX9 172 := ⟨r_W_of (List.mem_append_right _ (List.mem_of_getElem? (i := 1341) (by decide +kernel))) (by decide +kernel), r_W_of (List.mem_append_right _ (List.mem_of_getElem? (i := 662) (by decide +kernel))) (by decide +kernel), r_W_of (List.mem_append_right _ (List.mem_of_getElem? (i := 661) (by decide +kernel))) (by decide +kernel), r_W_of (List.mem_append_right _ (List.mem_of_getElem? (i := 19) (by decide +kernel))) (by decide +kernel)⟩
theorem cp_X2 : r_cp RX2 81 := ⟨r_W_of (List.mem_append_right _ (List.mem_of_getElem? (i := 1346) (by decide +kernel))) (by decide +kernel), r_W_of (List.mem_append_right _ (List.mem_of_getElem? (i := 662) (by decide +kernel))) (by decide +kernel), r_W_of (List.mem_append_right _ (List.mem_of_getElem? (i := 661) (by decide +kernel))) (by decide +kernel), r_W_of (List.mem_append_right _ (List.mem_of_getElem? (i := 19) (by decide +kernel))) (by decide +kernel)⟩
theorem cp_X5 : r_cp RX5 88 := ⟨r_W_of (List.mem_append_right _ (List.mem_of_getElem? (i := 1351) (by decide +kernel))) (by decide +kernel), r_W_of (List.mem_append_right _ (List.mem_of_getElem? (i := 662) (by decide +kernel))) (by decide +kernel), r_W_of (List.mem_append_right _ (List.mem_of_getElem? (i := 661) (by decide +kernel))) (by decide +kernel), r_W_of (List.mem_append_right _ (List.mem_of_getElem? (i := 19) (by decide +kernel))) (by decide +kernel)⟩
