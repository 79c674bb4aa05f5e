-- MEMORY: fields and arrays
def r_ii (t : FieldType) : Bool := match t with
  | .int => true
  | .boolean => true
  | _ => false
def r_ri (t : FieldType) : Bool := match t with
  | .object _ => true
  | .array _ => true
  | _ => false
theorem r_el_obj {G : Wd} {cA : Nat → ClassId} {ad : Nat → Nat} {M : Mem} {o ci N : Nat} (h : ci < 100) : r_el G cA ad M o (ci, N) = .inr (ci, r_fs G ad M o ci N) := by
  simp [r_el, h]
theorem r_el_int {G : Wd} {cA : Nat → ClassId} {ad : Nat → Nat} {M : Mem} {o kd N : Nat} (h : kd = 100 ∨ kd = 102 ∨ kd = 103) : r_el G cA ad M o (kd, N) = .inl (cA (kd - 100), N, .inl (M.1 o)) := by
  rcases h with rfl | rfl | rfl <;> simp [r_el]
theorem r_el_long {G : Wd} {cA : Nat → ClassId} {ad : Nat → Nat} {M : Mem} {o N : Nat} : r_el G cA ad M o (101, N) = .inl (cA 1, N, .inr (.inl (M.2.1 o))) := by
  simp [r_el]
theorem r_el_ref {G : Wd} {cA : Nat → ClassId} {ad : Nat → Nat} {M : Mem} {o kd N : Nat} (h : kd = 104 ∨ kd = 105) : r_el G cA ad M o (kd, N) = .inl (cA (kd - 100), N, .inr (.inr (.inr (.inr (fun k => (M.2.2 o k).map ad))))) := by
  rcases h with rfl | rfl <;> simp [r_el]
theorem r_fs_get {G : Wd} {ad : Nat → Nat} {M : Mem} {o ci N k : Nat} (h : k < N) : (r_fs G ad M o ci N)[k]? = some (r_fv G ad M o k (r_ty ci k)) := by
  unfold r_fs
  rw [List.getElem?_map, List.getElem?_range h]
  rfl
theorem r_fs_set {G : Wd} {ad : Nat → Nat} {M M' : Mem} {o ci N k : Nat} {v : Value} (hv : r_fv G ad M' o k (r_ty ci k) = v) (ho : ∀ j, j ≠ k → r_fv G ad M' o j (r_ty ci j) = r_fv G ad M o j (r_ty ci j)) (hk : k < N) : (r_fs G ad M o ci N).set k v = r_fs G ad M' o ci N := by
  apply List.ext_getElem?
  intro j
  by_cases hj : j = k
  · subst hj
    rw [List.getElem?_set_self (by simp [r_fs]; exact hk), r_fs_get hk, hv]
  · rw [List.getElem?_set_ne (Ne.symm hj)]
    by_cases hjl : j < N
    · rw [r_fs_get hjl, r_fs_get hjl, ho j hj]
    · rw [List.getElem?_eq_none (by simp [r_fs]; omega), List.getElem?_eq_none (by simp [r_fs]; omega)]
theorem r_sI_1 (M : Mem) (o k : Nat) (v : Int32) : (r_sI M o k v).1 o = upd (M.1 o) k v := by simp [r_sI]
theorem r_sI_o {M : Mem} {o k o' : Nat} {v : Int32} (h : o' ≠ o) : (r_sI M o k v).1 o' = M.1 o' := by simp [r_sI, h]
theorem r_sI_el {G : Wd} {cA : Nat → ClassId} {ad : Nat → Nat} {M : Mem} {o k : Nat} {v : Int32} (o' : Nat) (sh' : Nat × Nat) (h : o' ≠ o) : r_el G cA ad (r_sI M o k v) o' sh' = r_el G cA ad M o' sh' := by
  have e : (r_sI M o k v).1 o' = M.1 o' := r_sI_o h
  have e2 : r_fs G ad (r_sI M o k v) o' sh'.1 sh'.2 = r_fs G ad M o' sh'.1 sh'.2 := by
    unfold r_fs
    apply List.map_congr_left
    intro j _
    unfold r_fv
    split <;> first | rfl | (rw [e])
  unfold r_el
  rw [e2, e]
  rfl
theorem r_sJ_el {G : Wd} {cA : Nat → ClassId} {ad : Nat → Nat} {M : Mem} {o k : Nat} {v : Int64} (o' : Nat) (sh' : Nat × Nat) (h : o' ≠ o) : r_el G cA ad (r_sJ M o k v) o' sh' = r_el G cA ad M o' sh' := by
  have e : (r_sJ M o k v).2.1 o' = M.2.1 o' := by simp [r_sJ, h]
  have e2 : r_fs G ad (r_sJ M o k v) o' sh'.1 sh'.2 = r_fs G ad M o' sh'.1 sh'.2 := by
    unfold r_fs
    apply List.map_congr_left
    intro j _
    unfold r_fv
    split <;> first | rfl | (rw [e])
  unfold r_el
  rw [e2, e]
  rfl
theorem r_sR_el {G : Wd} {cA : Nat → ClassId} {ad : Nat → Nat} {M : Mem} {o k : Nat} {v : Option Nat} (o' : Nat) (sh' : Nat × Nat) (h : o' ≠ o) : r_el G cA ad (r_sR M o k v) o' sh' = r_el G cA ad M o' sh' := by
  have e : (r_sR M o k v).2.2 o' = M.2.2 o' := by simp [r_sR, h]
  have e3 : ∀ j, r_rf G (r_sR M o k v) o' j = r_rf G M o' j := by
    intro j
    unfold r_rf
    rw [e]
  have e2 : r_fs G ad (r_sR M o k v) o' sh'.1 sh'.2 = r_fs G ad M o' sh'.1 sh'.2 := by
    unfold r_fs
    apply List.map_congr_left
    intro j _
    unfold r_fv
    split <;> first | rfl | (rw [e3])
  unfold r_el
  rw [e2, e]
  rfl
section RM
variable {d : Nat} {mt : Mt} {a : (Nat × Nat) × (Nat × Nat)} {pc : Nat} {L : Ls} {st : List Value} {G : Wd} {M : Mem} {Q : Rq}
theorem Ru_get {idx ci k N o : Nat} {t : FieldType} {fin : Bool} {v : Value} (hd : decode mt.2.1 pc = .ok (.getfield idx, 3)) (hf : r_fl mt.1.cls idx ci k N t fin) (hs : G.1[o]? = some (ci, N)) (hv : ∀ ad, r_fv G ad M o k t = r_cv ad v) (kk : Ru d mt a (pc + 3) L (v :: st) G M Q) : Ru d mt a pc L (.ref o :: st) G M Q := by
  intro D cA ad p l e s m args below meth c H locs ls A C
  have C0 := C
  obtain ⟨⟨hx, hb, hml, hown, hts⟩, h2, h3, h4, hK, hP, hD, hS, hA, hL, hg, hZ⟩ := C
  obtain ⟨C1, T, hcl, hk, hw, ht, -, -⟩ := hf
  have he := (r_wo_get (cA := cA) (ad := ad) (M := M) hs).trans (by rw [r_el_obj hcl.2.2.2.2])
  refine va_get hx hb hts (fun w h => List.mem_cons_of_mem _ (hcl.2.1 w h)) hown hK hP o he hcl.1 k hk (hts _ (List.mem_cons_of_mem _ hw)) (fun _ z => z) (r_fs_get hk) hd ?_
  rw [ht, hv ad]
  exact kk D cA ad p l e s m args below meth c H locs ls A C0
theorem Ru_getI {idx ci k N o : Nat} {t : FieldType} {fin : Bool} (hd : decode mt.2.1 pc = .ok (.getfield idx, 3)) (hf : r_fl mt.1.cls idx ci k N t fin) (hs : G.1[o]? = some (ci, N)) (ht : r_ii t = true) (kk : Ru d mt a (pc + 3) L (.int (M.1 o k) :: st) G M Q) : Ru d mt a pc L (.ref o :: st) G M Q :=
  Ru_get hd hf hs (fun ad => by cases t <;> first | rfl | (cases ht)) kk
theorem Ru_getJ {idx ci k N o : Nat} {fin : Bool} (hd : decode mt.2.1 pc = .ok (.getfield idx, 3)) (hf : r_fl mt.1.cls idx ci k N .long fin) (hs : G.1[o]? = some (ci, N)) (kk : Ru d mt a (pc + 3) L (.long (M.2.1 o k) :: st) G M Q) : Ru d mt a pc L (.ref o :: st) G M Q :=
  Ru_get hd hf hs (fun ad => rfl) kk
theorem Ru_getR {idx ci k N o : Nat} {t : FieldType} {fin : Bool} (r : Nat) (hd : decode mt.2.1 pc = .ok (.getfield idx, 3)) (hf : r_fl mt.1.cls idx ci k N t fin) (hs : G.1[o]? = some (ci, N)) (ht : r_ri t = true) (hr : r_rf G M o k = some r) (kk : Ru d mt a (pc + 3) L (.ref r :: st) G M Q) : Ru d mt a pc L (.ref o :: st) G M Q :=
  Ru_get hd hf hs (fun ad => by cases t <;> first | (cases ht; done) | (simp only [r_fv, hr]; rfl)) kk
theorem r_gr_f {G : Wd} {ad : Nat → Nat} {n : Nat} (h : G.2.2 = false) : r_gr G ad n := fun z => by rw [h] at z; cases z
theorem Ru_put {idx ci k N o : Nat} {t : FieldType} {v : Value} {M' : Mem} (hg0 : G.2.2 = false) (hd : decode mt.2.1 pc = .ok (.putfield idx, 3)) (hf : r_fl mt.1.cls idx ci k N t false) (hs : G.1[o]? = some (ci, N))
    (hn : ∀ ad, narrow t (r_cv ad v) = r_cv ad v) (hfit : ∀ ad, fits t (r_cv ad v) = true) (hv : ∀ ad, r_fv G ad M' o k t = r_cv ad v) (ho : ∀ ad j, j ≠ k → r_fv G ad M' o j (r_ty ci j) = r_fv G ad M o j (r_ty ci j)) (hx : ∀ cA ad o' sh', o' ≠ o → r_el G cA ad M' o' sh' = r_el G cA ad M o' sh')
    (kk : Ru d mt a (pc + 3) L st G M' Q) : Ru d mt a pc L (v :: .ref o :: st) G M Q := by
  intro D cA ad p l e s m args below meth c H locs ls A C
  obtain ⟨⟨hx1, hb, hml, hown, hts⟩, h2, h3, h4, hK, hP, hD, hS, hA, hL, hg, hZ⟩ := C
  obtain ⟨C1, T, hcl, hk, hw, ht, hfn, hdc⟩ := hf
  have he := (r_wo_get (cA := cA) (ad := ad) (M := M) hs).trans (by rw [r_el_obj hcl.2.2.2.2])
  have hset : (r_wo G cA ad M).set o (ad o, .inr (ci, (r_fs G ad M o ci N).set k (r_cv ad v))) = r_wo G cA ad M' :=
    r_wo_set hs (by rw [r_el_obj hcl.2.2.2.2, r_fs_set (by rw [ht]; exact hv ad) (ho ad) hk]) (hx cA ad)
  have hlen : k < (r_fs G ad M o ci N).length := by simp [r_fs]; exact hk
  have hdd : parseFieldDescriptor (T k).2.2.1 = some t := by rw [hcl.2.2.1 k hk, ht]
  refine va_put hx1 hb hts (fun w h => List.mem_cons_of_mem _ (hcl.2.1 w h)) (r_ty ci) hcl.2.2.1 hcl.2.2.2.1 hown hK hP hD hS o he hcl.1 k hk (hts _ (List.mem_cons_of_mem _ hw)) (fun _ z => z) hfn hdd (hn ad) (hfit ad) hlen hd fun H1 locs1 q1 q2 q3 => ?_
  rw [hset] at q1 q2
  exact kk D cA ad p l e s m args below meth c H1 locs1 ls A ⟨⟨hx1, hb, hml, hown, hts⟩, h2, h3, h4, hK, q1, q2, q3, hA, hL, r_gr_f hg0, hZ⟩
theorem Ru_putI {idx ci k N o : Nat} {x : Int32} (hg0 : G.2.2 = false) (hd : decode mt.2.1 pc = .ok (.putfield idx, 3)) (hf : r_fl mt.1.cls idx ci k N .int false) (hs : G.1[o]? = some (ci, N)) (kk : Ru d mt a (pc + 3) L st G (r_sI M o k x) Q) : Ru d mt a pc L (.int x :: .ref o :: st) G M Q := by
  refine Ru_put hg0 hd hf hs (fun _ => rfl) (fun _ => rfl) (fun ad => ?_) (fun ad j hj => ?_) (fun cA ad o' sh' h => r_sI_el o' sh' h) kk
  · simp [r_fv, r_sI, upd, r_cv]
  · unfold r_fv
    split <;> first | rfl | (simp [r_sI, upd, hj])
theorem Ru_putZ {idx ci k N o : Nat} {x : Int32} (hg0 : G.2.2 = false) (hd : decode mt.2.1 pc = .ok (.putfield idx, 3)) (hf : r_fl mt.1.cls idx ci k N .boolean false) (hs : G.1[o]? = some (ci, N)) (h01 : x = 0 ∨ x = 1) (kk : Ru d mt a (pc + 3) L st G (r_sI M o k x) Q) : Ru d mt a pc L (.int x :: .ref o :: st) G M Q := by
  refine Ru_put hg0 hd hf hs (fun _ => by rcases h01 with rfl | rfl <;> rfl) (fun _ => by rcases h01 with rfl | rfl <;> rfl) (fun ad => ?_) (fun ad j hj => ?_) (fun cA ad o' sh' h => r_sI_el o' sh' h) kk
  · simp [r_fv, r_sI, upd, r_cv]
  · unfold r_fv
    split <;> first | rfl | (simp [r_sI, upd, hj])
theorem Ru_putJ {idx ci k N o : Nat} {x : Int64} (hg0 : G.2.2 = false) (hd : decode mt.2.1 pc = .ok (.putfield idx, 3)) (hf : r_fl mt.1.cls idx ci k N .long false) (hs : G.1[o]? = some (ci, N)) (kk : Ru d mt a (pc + 3) L st G (r_sJ M o k x) Q) : Ru d mt a pc L (.long x :: .ref o :: st) G M Q := by
  refine Ru_put hg0 hd hf hs (fun _ => rfl) (fun _ => rfl) (fun ad => ?_) (fun ad j hj => ?_) (fun cA ad o' sh' h => r_sJ_el o' sh' h) kk
  · simp [r_fv, r_sJ, vp_updL, r_cv]
  · unfold r_fv
    split <;> first | rfl | (simp [r_sJ, vp_updL, hj])
theorem Ru_putR {idx ci k N o : Nat} {C : String} {x : Nat} (hg0 : G.2.2 = false) (hd : decode mt.2.1 pc = .ok (.putfield idx, 3)) (hf : r_fl mt.1.cls idx ci k N (.object C) false) (hs : G.1[o]? = some (ci, N)) (hfr : G.2.1 o k = none) (kk : Ru d mt a (pc + 3) L st G (r_sR M o k (some x)) Q) : Ru d mt a pc L (.ref x :: .ref o :: st) G M Q := by
  refine Ru_put hg0 hd hf hs (fun _ => rfl) (fun _ => rfl) (fun ad => ?_) (fun ad j hj => ?_) (fun cA ad o' sh' h => r_sR_el o' sh' h) kk
  · simp [r_fv, r_rf, hfr, r_sR, va_up, va_rf, r_cv]
  · have e : r_rf G (r_sR M o k (some x)) o j = r_rf G M o j := by
      simp [r_rf, r_sR, va_up, hj]
    unfold r_fv
    split <;> first | rfl | (rw [e])
-- arrays
theorem Ru_iald {o n j : Nat} (hd : decode mt.2.1 pc = .ok (.iaload, 1)) (hs : G.1[o]? = some (100, n)) (hj : j < n ∧ n < 2147483648) (kk : Ru d mt a (pc + 1) L (.int (M.1 o j) :: st) G M Q) : Ru d mt a pc L (.int (nI j) :: .ref o :: st) G M Q := by
  intro D cA ad p l e s m args below meth c H locs ls A C
  have C0 := C
  obtain ⟨⟨hx, hb, hml, hown, hts⟩, h2, h3, h4, hK, hP, hD, hS, hA, hL, hg, hZ⟩ := C
  have he := (r_wo_get (cA := cA) (ad := ad) (M := M) hs).trans (by rw [r_el_int (Or.inl rfl)])
  refine va_iald hx hb hK hP o 0 he rfl (vp_in_nI hj.1 hj.2) hd ?_
  rw [nI_clamp (show j < 2 ^ 31 by omega)]
  exact kk D cA ad p l e s m args below meth c H locs ls A C0
theorem Ru_bald {o n j : Nat} (hd : decode mt.2.1 pc = .ok (.baload, 1)) (hs : G.1[o]? = some (102, n)) (hj : j < n ∧ n < 2147483648) (kk : Ru d mt a (pc + 1) L (.int (M.1 o j) :: st) G M Q) : Ru d mt a pc L (.int (nI j) :: .ref o :: st) G M Q := by
  intro D cA ad p l e s m args below meth c H locs ls A C
  have C0 := C
  obtain ⟨⟨hx, hb, hml, hown, hts⟩, h2, h3, h4, hK, hP, hD, hS, hA, hL, hg, hZ⟩ := C
  have he := (r_wo_get (cA := cA) (ad := ad) (M := M) hs).trans (by rw [r_el_int (Or.inr (Or.inl rfl))])
  refine va_bald hx hb hK hP o 2 he rfl (vp_in_nI hj.1 hj.2) hd ?_
  rw [nI_clamp (show j < 2 ^ 31 by omega)]
  exact kk D cA ad p l e s m args below meth c H locs ls A C0
theorem Ru_zald {o n j : Nat} (hd : decode mt.2.1 pc = .ok (.baload, 1)) (hs : G.1[o]? = some (103, n)) (hj : j < n ∧ n < 2147483648) (kk : Ru d mt a (pc + 1) L (.int (M.1 o j) :: st) G M Q) : Ru d mt a pc L (.int (nI j) :: .ref o :: st) G M Q := by
  intro D cA ad p l e s m args below meth c H locs ls A C
  have C0 := C
  obtain ⟨⟨hx, hb, hml, hown, hts⟩, h2, h3, h4, hK, hP, hD, hS, hA, hL, hg, hZ⟩ := C
  have he := (r_wo_get (cA := cA) (ad := ad) (M := M) hs).trans (by rw [r_el_int (Or.inr (Or.inr rfl))])
  refine va_zald hx hb hK hP o 3 he rfl (vp_in_nI hj.1 hj.2) hd ?_
  rw [nI_clamp (show j < 2 ^ 31 by omega)]
  exact kk D cA ad p l e s m args below meth c H locs ls A C0
theorem Ru_lald {o n j : Nat} (hd : decode mt.2.1 pc = .ok (.laload, 1)) (hs : G.1[o]? = some (101, n)) (hj : j < n ∧ n < 2147483648) (kk : Ru d mt a (pc + 1) L (.long (M.2.1 o j) :: st) G M Q) : Ru d mt a pc L (.int (nI j) :: .ref o :: st) G M Q := by
  intro D cA ad p l e s m args below meth c H locs ls A C
  have C0 := C
  obtain ⟨⟨hx, hb, hml, hown, hts⟩, h2, h3, h4, hK, hP, hD, hS, hA, hL, hg, hZ⟩ := C
  have he := (r_wo_get (cA := cA) (ad := ad) (M := M) hs).trans (by rw [r_el_long])
  refine va_lald hx hb hK hP o 1 he rfl (vp_in_nI hj.1 hj.2) hd ?_
  rw [nI_clamp (show j < 2 ^ 31 by omega)]
  exact kk D cA ad p l e s m args below meth c H locs ls A C0
theorem Ru_aald {o n j kd r : Nat} (hd : decode mt.2.1 pc = .ok (.aaload, 1)) (hs : G.1[o]? = some (kd, n)) (hkd : kd = 104 ∨ kd = 105) (hj : j < n ∧ n < 2147483648) (hr : M.2.2 o j = some r) (kk : Ru d mt a (pc + 1) L (.ref r :: st) G M Q) : Ru d mt a pc L (.int (nI j) :: .ref o :: st) G M Q := by
  intro D cA ad p l e s m args below meth c H locs ls A C
  have C0 := C
  obtain ⟨⟨hx, hb, hml, hown, hts⟩, h2, h3, h4, hK, hP, hD, hS, hA, hL, hg, hZ⟩ := C
  have he := (r_wo_get (cA := cA) (ad := ad) (M := M) hs).trans (by rw [r_el_ref hkd])
  have hg2 : va_rf ((M.2.2 o j).map ad) = r_cv ad (.ref r) := by rw [hr]; rfl
  rcases hkd with rfl | rfl
  · refine va_aldq hx hb hK hP o 4 he (C := RX9) rfl (vp_in_nI hj.1 hj.2) hd ?_
    rw [nI_clamp (show j < 2 ^ 31 by omega), hg2]
    exact kk D cA ad p l e s m args below meth c H locs ls A C0
  · refine va_aldq hx hb hK hP o 5 he (C := RX10) rfl (vp_in_nI hj.1 hj.2) hd ?_
    rw [nI_clamp (show j < 2 ^ 31 by omega), hg2]
    exact kk D cA ad p l e s m args below meth c H locs ls A C0
theorem Ru_alen {o n kd : Nat} (hd : decode mt.2.1 pc = .ok (.arraylength, 1)) (hs : G.1[o]? = some (kd, n)) (hkd : 100 ≤ kd ∧ kd ≤ 105) (kk : Ru d mt a (pc + 1) L (.int (nI n) :: st) G M Q) : Ru d mt a pc L (.ref o :: st) G M Q := by
  intro D cA ad p l e s m args below meth c H locs ls A C
  have C0 := C
  obtain ⟨⟨hx, hb, hml, hown, hts⟩, h2, h3, h4, hK, hP, hD, hS, hA, hL, hg, hZ⟩ := C
  have he0 := r_wo_get (cA := cA) (ad := ad) (M := M) hs
  have kk2 := kk D cA ad p l e s m args below meth c H locs ls A C0
  rcases (show kd = 100 ∨ kd = 101 ∨ kd = 102 ∨ kd = 103 ∨ kd = 104 ∨ kd = 105 by omega) with rfl | rfl | rfl | rfl | rfl | rfl
  · rw [r_el_int (Or.inl rfl)] at he0
    exact va_alen hx hb hK hP o 0 he0 (ty := .int) rfl rfl hd kk2
  · rw [r_el_long] at he0
    exact va_alen hx hb hK hP o 1 he0 (ty := .long) rfl rfl hd kk2
  · rw [r_el_int (Or.inr (Or.inl rfl))] at he0
    exact va_alen hx hb hK hP o 2 he0 (ty := .byte) rfl rfl hd kk2
  · rw [r_el_int (Or.inr (Or.inr rfl))] at he0
    exact va_alen hx hb hK hP o 3 he0 (ty := .boolean) rfl rfl hd kk2
  · rw [r_el_ref (Or.inl rfl)] at he0
    exact va_alen hx hb hK hP o 4 he0 (ty := .object RX9) rfl rfl hd kk2
  · rw [r_el_ref (Or.inr rfl)] at he0
    exact va_alen hx hb hK hP o 5 he0 (ty := .object RX10) rfl rfl hd kk2
theorem Ru_iast {o n j : Nat} {x : Int32} (hg0 : G.2.2 = false) (hd : decode mt.2.1 pc = .ok (.iastore, 1)) (hs : G.1[o]? = some (100, n)) (hj : j < n ∧ n < 2147483648) (kk : Ru d mt a (pc + 1) L st G (r_sI M o j x) Q) : Ru d mt a pc L (.int x :: .int (nI j) :: .ref o :: st) G M Q := by
  intro D cA ad p l e s m args below meth c H locs ls A C
  obtain ⟨⟨hx, hb, hml, hown, hts⟩, h2, h3, h4, hK, hP, hD, hS, hA, hL, hg, hZ⟩ := C
  have he := (r_wo_get (cA := cA) (ad := ad) (M := M) hs).trans (by rw [r_el_int (Or.inl rfl)])
  refine va_iast hx hb hK hP hD hS o 0 he rfl (vp_in_nI hj.1 hj.2) hd fun H1 locs1 q1 q2 q3 => ?_
  rw [nI_clamp (show j < 2 ^ 31 by omega), r_wo_set (M' := r_sI M o j x) hs (by rw [r_el_int (Or.inl rfl), r_sI_1]) (fun o' sh' h => r_sI_el o' sh' h)] at q1 q2
  exact kk D cA ad p l e s m args below meth c H1 locs1 ls A ⟨⟨hx, hb, hml, hown, hts⟩, h2, h3, h4, hK, q1, q2, q3, hA, hL, r_gr_f hg0, hZ⟩
theorem Ru_bast {o n j : Nat} {x : Int32} (hg0 : G.2.2 = false) (hd : decode mt.2.1 pc = .ok (.bastore, 1)) (hs : G.1[o]? = some (102, n)) (hj : j < n ∧ n < 2147483648) (kk : Ru d mt a (pc + 1) L st G (r_sI M o j (vp_nar .byte x)) Q) : Ru d mt a pc L (.int x :: .int (nI j) :: .ref o :: st) G M Q := by
  intro D cA ad p l e s m args below meth c H locs ls A C
  obtain ⟨⟨hx, hb, hml, hown, hts⟩, h2, h3, h4, hK, hP, hD, hS, hA, hL, hg, hZ⟩ := C
  have he := (r_wo_get (cA := cA) (ad := ad) (M := M) hs).trans (by rw [r_el_int (Or.inr (Or.inl rfl))])
  refine va_bast hx hb hK hP hD hS o 2 he rfl (vp_in_nI hj.1 hj.2) hd fun H1 locs1 q1 q2 q3 => ?_
  rw [nI_clamp (show j < 2 ^ 31 by omega), r_wo_set (M' := r_sI M o j (vp_nar .byte x)) hs (by rw [r_el_int (Or.inr (Or.inl rfl)), r_sI_1]) (fun o' sh' h => r_sI_el o' sh' h)] at q1 q2
  exact kk D cA ad p l e s m args below meth c H1 locs1 ls A ⟨⟨hx, hb, hml, hown, hts⟩, h2, h3, h4, hK, q1, q2, q3, hA, hL, r_gr_f hg0, hZ⟩
theorem Ru_zast {o n j : Nat} {x : Int32} (hg0 : G.2.2 = false) (hd : decode mt.2.1 pc = .ok (.bastore, 1)) (hs : G.1[o]? = some (103, n)) (hj : j < n ∧ n < 2147483648) (h01 : x = 0 ∨ x = 1) (kk : Ru d mt a (pc + 1) L st G (r_sI M o j x) Q) : Ru d mt a pc L (.int x :: .int (nI j) :: .ref o :: st) G M Q := by
  intro D cA ad p l e s m args below meth c H locs ls A C
  obtain ⟨⟨hx, hb, hml, hown, hts⟩, h2, h3, h4, hK, hP, hD, hS, hA, hL, hg, hZ⟩ := C
  have he := (r_wo_get (cA := cA) (ad := ad) (M := M) hs).trans (by rw [r_el_int (Or.inr (Or.inr rfl))])
  have hz : vp_nar .boolean x = x := by rcases h01 with rfl | rfl <;> rfl
  refine va_zast hx hb hK hP hD hS o 3 he rfl (vp_in_nI hj.1 hj.2) hd fun H1 locs1 q1 q2 q3 => ?_
  rw [hz, nI_clamp (show j < 2 ^ 31 by omega), r_wo_set (M' := r_sI M o j x) hs (by rw [r_el_int (Or.inr (Or.inr rfl)), r_sI_1]) (fun o' sh' h => r_sI_el o' sh' h)] at q1 q2
  exact kk D cA ad p l e s m args below meth c H1 locs1 ls A ⟨⟨hx, hb, hml, hown, hts⟩, h2, h3, h4, hK, q1, q2, q3, hA, hL, r_gr_f hg0, hZ⟩
theorem Ru_last {o n j : Nat} {x : Int64} (hg0 : G.2.2 = false) (hd : decode mt.2.1 pc = .ok (.lastore, 1)) (hs : G.1[o]? = some (101, n)) (hj : j < n ∧ n < 2147483648) (kk : Ru d mt a (pc + 1) L st G (r_sJ M o j x) Q) : Ru d mt a pc L (.long x :: .int (nI j) :: .ref o :: st) G M Q := by
  intro D cA ad p l e s m args below meth c H locs ls A C
  obtain ⟨⟨hx, hb, hml, hown, hts⟩, h2, h3, h4, hK, hP, hD, hS, hA, hL, hg, hZ⟩ := C
  have he := (r_wo_get (cA := cA) (ad := ad) (M := M) hs).trans (by rw [r_el_long])
  refine va_last hx hb hK hP hD hS o 1 he rfl (vp_in_nI hj.1 hj.2) hd fun H1 locs1 q1 q2 q3 => ?_
  rw [nI_clamp (show j < 2 ^ 31 by omega), r_wo_set (M' := r_sJ M o j x) hs (by rw [r_el_long]; simp [r_sJ]) (fun o' sh' h => r_sJ_el o' sh' h)] at q1 q2
  exact kk D cA ad p l e s m args below meth c H1 locs1 ls A ⟨⟨hx, hb, hml, hown, hts⟩, h2, h3, h4, hK, q1, q2, q3, hA, hL, r_gr_f hg0, hZ⟩
theorem Ru_aast {o n j kd ci N v : Nat} {T : u_T} {C : String} (hg0 : G.2.2 = false) (hd : decode mt.2.1 pc = .ok (.aastore, 1)) (hs : G.1[o]? = some (kd, n)) (hkd : (kd = 104 ∧ ci = 9) ∨ (kd = 105 ∧ ci = 10)) (hsv : G.1[v]? = some (ci, N)) (hj : j < n ∧ n < 2147483648) (kk : Ru d mt a (pc + 1) L st G (r_sR M o j (some v)) Q) : Ru d mt a pc L (.ref v :: .int (nI j) :: .ref o :: st) G M Q := by
  intro D cA ad p l e s m args below meth c H locs ls A C
  obtain ⟨⟨hx, hb, hml, hown, hts⟩, h2, h3, h4, hK, hP, hD, hS, hA, hL, hg, hZ⟩ := C
  have hset : ∀ kd', (kd' = 104 ∨ kd' = 105) → G.1[o]? = some (kd', n) → (r_wo G cA ad M).set o (ad o, .inl (cA (kd' - 100), n, .inr (.inr (.inr (.inr (va_up (fun k => (M.2.2 o k).map ad) j (some (ad v)))))))) = r_wo G cA ad (r_sR M o j (some v)) := by
    intro kd' hk' hs'
    refine r_wo_set hs' ?_ (fun o' sh' h => r_sR_el o' sh' h)
    rw [r_el_ref hk']
    have : (fun k => ((r_sR M o j (some v)).2.2 o k).map ad) = va_up (fun k => (M.2.2 o k).map ad) j (some (ad v)) := by
      funext k
      by_cases hk : k = j <;> simp [r_sR, va_up, hk]
    rw [this]
  rcases hkd with ⟨rfl, rfl⟩ | ⟨rfl, rfl⟩
  · have he := (r_wo_get (cA := cA) (ad := ad) (M := M) hs).trans (by rw [r_el_ref (Or.inl rfl)])
    have hev := (r_wo_get (cA := cA) (ad := ad) (M := M) hsv).trans (by rw [r_el_obj (by decide)])
    refine va_astq hx hb hK hP hD hS o 4 v 9 he (r := (RX9, TX9, 21)) rfl hev rfl (vp_in_nI hj.1 hj.2) hd fun H1 locs1 q1 q2 q3 => ?_
    rw [nI_clamp (show j < 2 ^ 31 by omega), hset 104 (Or.inl rfl) hs] at q1 q2
    exact kk D cA ad p l e s m args below meth c H1 locs1 ls A ⟨⟨hx, hb, hml, hown, hts⟩, h2, h3, h4, hK, q1, q2, q3, hA, hL, r_gr_f hg0, hZ⟩
  · have he := (r_wo_get (cA := cA) (ad := ad) (M := M) hs).trans (by rw [r_el_ref (Or.inr rfl)])
    have hev := (r_wo_get (cA := cA) (ad := ad) (M := M) hsv).trans (by rw [r_el_obj (by decide)])
    refine va_astq hx hb hK hP hD hS o 5 v 10 he (r := (RX10, TX10, 3)) rfl hev rfl (vp_in_nI hj.1 hj.2) hd fun H1 locs1 q1 q2 q3 => ?_
    rw [nI_clamp (show j < 2 ^ 31 by omega), hset 105 (Or.inr rfl) hs] at q1 q2
    exact kk D cA ad p l e s m args below meth c H1 locs1 ls A ⟨⟨hx, hb, hml, hown, hts⟩, h2, h3, h4, hK, q1, q2, q3, hA, hL, r_gr_f hg0, hZ⟩
end RM
