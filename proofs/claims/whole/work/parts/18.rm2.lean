def r_nw (M : Mem) (o : Nat) : Mem := (fun o' => if o' = o then fun _ => 0 else M.1 o', fun o' => if o' = o then fun _ => 0 else M.2.1 o', fun o' => if o' = o then fun _ => none else M.2.2 o')
def r_ad1 (G : Wd) (sh : Nat × Nat) : Wd := (G.1 ++ [sh], G.2)
def r_okt (t : FieldType) : Bool := match t with
  | .int => true
  | .boolean => true
  | .long => true
  | .object _ => true
  | .array _ => true
  | _ => false
theorem r_nw_el {G : Wd} {cA : Nat → ClassId} {ad : Nat → Nat} {M : Mem} {o : Nat} {sh : Nat × Nat} (o' : Nat) (sh' : Nat × Nat) (h : o' ≠ o) : r_el (r_ad1 G sh) cA ad (r_nw M o) o' sh' = r_el G cA ad M o' sh' := by
  have e1 : (r_nw M o).1 o' = M.1 o' := by simp [r_nw, h]
  have e2 : (r_nw M o).2.1 o' = M.2.1 o' := by simp [r_nw, h]
  have e3 : (r_nw M o).2.2 o' = M.2.2 o' := by simp [r_nw, h]
  have e4 : ∀ j, r_rf (r_ad1 G sh) (r_nw M o) o' j = r_rf G M o' j := by
    intro j
    unfold r_rf
    rw [e3]
    rfl
  have e5 : r_fs (r_ad1 G sh) ad (r_nw M o) o' sh'.1 sh'.2 = r_fs G ad M o' sh'.1 sh'.2 := by
    unfold r_fs
    apply List.map_congr_left
    intro j _
    unfold r_fv
    split <;> first | (rw [e1]; done) | (rw [e2]; done) | (rw [e4]; done)
  unfold r_el
  rw [e5, e1, e2, e3]
theorem r_wo_push {G : Wd} {cA : Nat → ClassId} {ad : Nat → Nat} {M M' : Mem} {sh : Nat × Nat} (ho : ∀ o' sh', o' ≠ G.1.length → r_el (r_ad1 G sh) cA ad M' o' sh' = r_el G cA ad M o' sh') : r_wo (r_ad1 G sh) cA ad M' = r_wo G cA ad M ++ [(ad G.1.length, r_el (r_ad1 G sh) cA ad M' G.1.length sh)] := by
  unfold r_wo
  have hl : (r_ad1 G sh).1.length = G.1.length + 1 := by simp [r_ad1]
  rw [hl, List.range_succ, List.map_append]
  congr 1
  · apply List.map_congr_left
    intro o' h
    have hlt := List.mem_range.mp h
    rw [ho _ _ (by omega)]
    congr 2
    simp [r_ad1, List.getD, List.getElem?_append_left hlt]
  · simp [r_ad1, List.getD]
theorem r_gr_push {G : Wd} {ad : Nat → Nat} {n m : Nat} {sh : Nat × Nat} (h : r_gr G ad n) (e : m = n + 1) (_ : G.1.length < 999) : r_gr (r_ad1 G sh) ad m := by
  intro z j hj
  have hl : (r_ad1 G sh).1.length = G.1.length + 1 := by simp [r_ad1]
  rw [hl] at hj ⊢
  have := h z (1 + j) (by omega)
  rw [e, show G.1.length + 1 + j = G.1.length + (1 + j) by omega, this]
  omega
section RO
variable {d : Nat} {mt : Mt} {a : (Nat × Nat) × (Nat × Nat)} {pc : Nat} {L : Ls} {st : List Value} {G : Wd} {M : Mem} {Q : Rq}
theorem Rn_new {idx ci N : Nat} {C : String} {T : u_T} (hgt : G.2.2 = true) (hl9 : G.1.length < 999) (hd : decode mt.2.1 pc = .ok (.new idx, 3)) (hcl : r_cl ci C T N) (hw1 : Cond.classLink mt.1.cls idx C ∈ r_W) (hw2 : Cond.instantiable C N ∈ r_W) (hw3 : Cond.initialized C ∈ r_W) (hfr : ∀ k, G.2.1 G.1.length k = none) (hok : ∀ j, j < N → r_okt (r_ty ci j) = true) (hf : a.2.1 + 1 ≤ a.1.1 ∧ a.2.2 + N ≤ a.1.2)
    (kk : Ru d mt (a.1, (a.2.1 + 1, a.2.2 + N)) (pc + 3) L (.ref G.1.length :: st) (r_ad1 G (ci, N)) (r_nw M G.1.length) Q) : Ru d mt a pc L st G M Q := by
  intro D cA ad p l e s m args below meth c H locs ls A C0
  obtain ⟨⟨hx, hb, hml, hown, hts⟩, h2, h3, h4, hK, hP, hD, hS, hA, hL, hg, hZ⟩ := C0
  have ht := fun w (h : w ∈ r_W) => hts w (List.mem_cons_of_mem _ h)
  have hin : ∀ w ∈ u_ws C T N, w ∈ r_ws mt := fun w h => List.mem_cons_of_mem _ (hcl.2.1 w h)
  have hKn := hK.1 ci _ hcl.1
  have hadr : ad G.1.length = H.size := hg hgt 0 (by omega)
  refine W.newcK hx hb hown (ht _ hw1) (ht _ hw2) (ht _ hw3) rfl hd hf.1 hf.2 hKn.2.1 rfl fun H1 kC hkC e1 z1 o1 => ?_
  have hk : ∀ (k : Nat) (x : Nat × va_E), (r_wo G cA ad M)[k]? = some x → H1[x.1]? = H[x.1]? := fun k x hx => o1 x.1 ((hP k x hx).lt)
  have hel : r_el (r_ad1 G (ci, N)) cA ad (r_nw M G.1.length) G.1.length (ci, N) = .inr (ci, r_fs (r_ad1 G (ci, N)) ad (r_nw M G.1.length) G.1.length ci N) := r_el_obj hcl.2.2.2.2
  have hwo := r_wo_push (cA := cA) (ad := ad) (M := M) (M' := r_nw M G.1.length) (G := G) (sh := (ci, N)) (fun o' sh' h => r_nw_el o' sh' h)
  rw [hel] at hwo
  have hP1 : va_P D vwCl (r_wo (r_ad1 G (ci, N)) cA ad (r_nw M G.1.length)) H1 := by
    rw [hwo]
    refine (hP.kept hk).app (fun k x hx => ?_)
    have hz : k < 1 := (List.getElem?_eq_some_iff.mp hx).1
    rw [show k = 0 by omega] at hx
    cases hx
    refine ⟨_, hcl.1, t_OB.to (V := fun k => defaultValue (r_ty ci k)) ?_ (fun j hj => ?_)⟩
    · show t_OB (ad G.1.length) _ _ _ H1 _
      rw [hadr]
      exact u_born (r_ty ci) hts hin hKn hkC e1 hcl.2.2.1
    · have hg2 := r_fs_get (G := r_ad1 G (ci, N)) (ad := ad) (M := r_nw M G.1.length) (o := G.1.length) (ci := ci) hj
      unfold vp_V
      rw [List.getD, hg2]
      have h0 := hok j hj
      have hrf : r_rf (r_ad1 G (ci, N)) (r_nw M G.1.length) G.1.length j = none := by
        unfold r_rf
        rw [show (r_ad1 G (ci, N)).2.1 G.1.length j = none from hfr j]
        simp [r_nw]
      cases ht : r_ty ci j <;> rw [ht] at h0 <;> first | (cases h0; done) | (simp only [r_fv, hrf]; rfl) | (simp [r_fv, r_nw, defaultValue]; done)
  have hD1 : va_D A (r_wo (r_ad1 G (ci, N)) cA ad (r_nw M G.1.length)) := by
    rw [hwo]
    exact hD.push hP hadr (by rw [hadr]; exact hA _ hS.1)
  have hcv : (.ref H.size : Value) = r_cv ad (.ref G.1.length) := by rw [← hadr]; rfl
  rw [hcv]
  exact kk D cA ad p l e s m args below meth c H1 locs ls A ⟨⟨hx, hb, hml, hown, hts⟩, h2, h3, h4, hK, hP1, hD1, ⟨Nat.le_trans hS.1 (by omega), fun x h1 h2 => (o1 x (Nat.lt_of_lt_of_le h1 hS.1)).trans (hS.2.1 x h1 h2), hS.2.2⟩, hA, hL, r_gr_push hg z1 hl9, hZ⟩
theorem Rn_newa {atype : ArrayType} {ty : FieldType} {kd n : Nat} (hgt : G.2.2 = true) (hl9 : G.1.length < 999) (hd : decode mt.2.1 pc = .ok (.newarray atype, 2)) (hty : newarray.typeOf atype = ty) (hkd : (kd = 100 ∧ ty = .int) ∨ (kd = 101 ∧ ty = .long) ∨ (kd = 102 ∧ ty = .byte) ∨ (kd = 103 ∧ ty = .boolean)) (hw : Cond.arrayClass ty ∈ r_W) (hn : n < 65536) (hf : a.2.1 + 1 ≤ a.1.1 ∧ a.2.2 + n ≤ a.1.2)
    (kk : Ru d mt (a.1, (a.2.1 + 1, a.2.2 + n)) (pc + 2) L (.ref G.1.length :: st) (r_ad1 G (kd, n)) (r_nw M G.1.length) Q) : Ru d mt a pc L (.int (nI n) :: st) G M Q := by
  intro D cA ad p l e s m args below meth c H locs ls A C0
  obtain ⟨⟨hx, hb, hml, hown, hts⟩, h2, h3, h4, hK, hP, hD, hS, hA, hL, hg, hZ⟩ := C0
  have ht := fun w (h : w ∈ r_W) => hts w (List.mem_cons_of_mem _ h)
  have hadr : ad G.1.length = H.size := hg hgt 0 (by omega)
  subst hty
  have hcl := nI_clamp (show n < 2 ^ 31 by omega)
  have hcb : componentBytes (newarray.typeOf atype) ≤ 8 := by cases atype <;> decide
  refine va_newaK hx hb (ht _ hw) rfl hd rfl (nI_pos (show n < 2 ^ 31 by omega)) hcl (Nat.le_trans (Nat.mul_le_mul (Nat.le_of_lt hn) hcb) (by decide)) hf.1 hf.2 rfl fun H1 cA1 e1 z1 o1 hAr hNm => ?_
  have hk : ∀ (k : Nat) (x : Nat × va_E), (r_wo G cA ad M)[k]? = some x → H1[x.1]? = H[x.1]? := fun k x hx => o1 x.1 ((hP k x hx).lt)
  have hwo := r_wo_push (cA := cA) (ad := ad) (M := M) (M' := r_nw M G.1.length) (G := G) (sh := (kd, n)) (fun o' sh' h => r_nw_el o' sh' h)
  have hcell : va_at D vwCl (ad G.1.length, r_el (r_ad1 G (kd, n)) cA ad (r_nw M G.1.length) G.1.length (kd, n)) H1 := by
    rcases hkd with ⟨rfl, hz⟩ | ⟨rfl, hz⟩ | ⟨rfl, hz⟩ | ⟨rfl, hz⟩
    · rw [r_el_int (Or.inl rfl)]
      have hc : cA 0 = cA1 := by
        have h5 := (hK.2 0 _ rfl).2
        rw [hz] at hNm
        exact Option.some.inj (h5.symm.trans hNm)
      show H1[ad G.1.length]? = some (vp_cell (cA 0) _)
      rw [hadr, e1, hc, vp_cell_i, hz]
      simp [r_nw, defaultValue]
    · rw [r_el_long]
      have hc : cA 1 = cA1 := by
        have h5 := (hK.2 1 _ rfl).2
        rw [hz] at hNm
        exact Option.some.inj (h5.symm.trans hNm)
      show H1[ad G.1.length]? = some (vp_cell (cA 1) _)
      rw [hadr, e1, hc, vp_cell_l, hz]
      simp [r_nw, defaultValue]
    · rw [r_el_int (Or.inr (Or.inl rfl))]
      have hc : cA 2 = cA1 := by
        have h5 := (hK.2 2 _ rfl).2
        rw [hz] at hNm
        exact Option.some.inj (h5.symm.trans hNm)
      show H1[ad G.1.length]? = some (vp_cell (cA 2) _)
      rw [hadr, e1, hc, vp_cell_i, hz]
      simp [r_nw, defaultValue]
    · rw [r_el_int (Or.inr (Or.inr rfl))]
      have hc : cA 3 = cA1 := by
        have h5 := (hK.2 3 _ rfl).2
        rw [hz] at hNm
        exact Option.some.inj (h5.symm.trans hNm)
      show H1[ad G.1.length]? = some (vp_cell (cA 3) _)
      rw [hadr, e1, hc, vp_cell_i, hz]
      simp [r_nw, defaultValue]
  have hP1 : va_P D vwCl (r_wo (r_ad1 G (kd, n)) cA ad (r_nw M G.1.length)) H1 := by
    rw [hwo]
    refine (hP.kept hk).app (fun k x hx => ?_)
    have hz : k < 1 := (List.getElem?_eq_some_iff.mp hx).1
    rw [show k = 0 by omega] at hx
    cases hx
    exact hcell
  have hD1 : va_D A (r_wo (r_ad1 G (kd, n)) cA ad (r_nw M G.1.length)) := by
    rw [hwo]
    exact hD.push hP hadr (by rw [hadr]; exact hA _ hS.1)
  have hcv : (.ref H.size : Value) = r_cv ad (.ref G.1.length) := by rw [← hadr]; rfl
  rw [hcv]
  exact kk D cA ad p l e s m args below meth c H1 locs ls A ⟨⟨hx, hb, hml, hown, hts⟩, h2, h3, h4, hK, hP1, hD1, ⟨Nat.le_trans hS.1 (by omega), fun x h1 h2 => (o1 x (Nat.lt_of_lt_of_le h1 hS.1)).trans (hS.2.1 x h1 h2), hS.2.2⟩, hA, hL, r_gr_push hg z1 hl9, hZ⟩
theorem Rn_anew {idx kd n : Nat} {C : String} (hgt : G.2.2 = true) (hl9 : G.1.length < 999) (hd : decode mt.2.1 pc = .ok (.anewarray idx, 3)) (hkd : (kd = 104 ∧ C = RX9) ∨ (kd = 105 ∧ C = RX10)) (hw1 : Cond.classLink mt.1.cls idx C ∈ r_W) (hn : n < 65536) (hf : a.2.1 + 1 ≤ a.1.1 ∧ a.2.2 + n ≤ a.1.2)
    (kk : Ru d mt (a.1, (a.2.1 + 1, a.2.2 + n)) (pc + 3) L (.ref G.1.length :: st) (r_ad1 G (kd, n)) (r_nw M G.1.length) Q) : Ru d mt a pc L (.int (nI n) :: st) G M Q := by
  intro D cA ad p l e s m args below meth c H locs ls A C0
  obtain ⟨⟨hx, hb, hml, hown, hts⟩, h2, h3, h4, hK, hP, hD, hS, hA, hL, hg, hZ⟩ := C0
  have ht := fun w (h : w ∈ r_W) => hts w (List.mem_cons_of_mem _ h)
  have hadr : ad G.1.length = H.size := hg hgt 0 (by omega)
  have hcl := nI_clamp (show n < 2 ^ 31 by omega)
  have hao : va_AO C s := by
    rcases hkd with ⟨-, rfl⟩ | ⟨-, rfl⟩
    · exact hZ.2.2.2.2.2.2.1
    · exact hZ.2.2.2.2.2.2.2
  refine W.anew hx hb hown (ht _ hw1) (va_AO.use hao) rfl hd rfl (nI_pos (show n < 2 ^ 31 by omega)) (by rw [hcl]; omega) hf.1 (by rw [hcl]; exact hf.2) fun cA1 kA comp f1 f2 f3 f4 => ?_
  rw [hcl]
  generalize hH1 : H.push ({ cls := cA1, slots := Array.replicate n .null, vm := .none } : Cell) = H1
  have z1 : H1.size = H.size + 1 := by rw [← hH1, Array.size_push]
  have e1 : H1[H.size]? = some (arrV cA1 n (fun _ => .null)) := by rw [← hH1, Array.getElem?_push_size, ← arrV_new]
  have o1 : ∀ q : Nat, q < H.size → H1[q]? = H[q]? := fun q hq => by rw [← hH1, Array.getElem?_push, if_neg (Nat.ne_of_lt hq)]
  have hk : ∀ (k : Nat) (x : Nat × va_E), (r_wo G cA ad M)[k]? = some x → H1[x.1]? = H[x.1]? := fun k x hx => o1 x.1 ((hP k x hx).lt)
  have hwo := r_wo_push (cA := cA) (ad := ad) (M := M) (M' := r_nw M G.1.length) (G := G) (sh := (kd, n)) (fun o' sh' h => r_nw_el o' sh' h)
  have hcell : va_at D vwCl (ad G.1.length, r_el (r_ad1 G (kd, n)) cA ad (r_nw M G.1.length) G.1.length (kd, n)) H1 := by
    rcases hkd with ⟨rfl, hz⟩ | ⟨rfl, hz⟩
    · rw [r_el_ref (Or.inl rfl)]
      have hc : cA 4 = cA1 := by
        obtain ⟨kA', comp', k1, k2, k3, k4⟩ := (hK.2 4 _ rfl).2
        rw [hz] at f1
        exact Option.some.inj (k4.symm.trans f1)
      show H1[ad G.1.length]? = some (vp_cell (cA 4) _)
      rw [hadr, e1, hc, vp_cell_q]
      simp [r_nw, va_rf]
    · rw [r_el_ref (Or.inr rfl)]
      have hc : cA 5 = cA1 := by
        obtain ⟨kA', comp', k1, k2, k3, k4⟩ := (hK.2 5 _ rfl).2
        rw [hz] at f1
        exact Option.some.inj (k4.symm.trans f1)
      show H1[ad G.1.length]? = some (vp_cell (cA 5) _)
      rw [hadr, e1, hc, vp_cell_q]
      simp [r_nw, va_rf]
  have hP1 : va_P D vwCl (r_wo (r_ad1 G (kd, n)) cA ad (r_nw M G.1.length)) H1 := by
    rw [hwo]
    refine (hP.kept hk).app (fun k x hx => ?_)
    have hz : k < 1 := (List.getElem?_eq_some_iff.mp hx).1
    rw [show k = 0 by omega] at hx
    cases hx
    exact hcell
  have hD1 : va_D A (r_wo (r_ad1 G (kd, n)) cA ad (r_nw M G.1.length)) := by
    rw [hwo]
    exact hD.push hP hadr (by rw [hadr]; exact hA _ hS.1)
  have hcv : (.ref H.size : Value) = r_cv ad (.ref G.1.length) := by rw [← hadr]; rfl
  rw [hcv]
  exact kk D cA ad p l e s m args below meth c H1 locs ls A ⟨⟨hx, hb, hml, hown, hts⟩, h2, h3, h4, hK, hP1, hD1, ⟨Nat.le_trans hS.1 (by omega), fun x h1 h2 => (o1 x (Nat.lt_of_lt_of_le h1 hS.1)).trans (hS.2.1 x h1 h2), hS.2.2⟩, hA, hL, r_gr_push hg z1 hl9, hZ⟩
/-- Object's own start: it does nothing -/
theorem Ru_obj {idx o : Nat} (hd : decode mt.2.1 pc = .ok (.invokespecial idx, 3)) (hw1 : Cond.methodLink mt.1.cls idx Lib.objectInit ∈ r_W) (hw2 : Cond.instanceMethod Lib.objectInit ∈ r_W) (hw3 : Cond.code Lib.objectInit ⟨#[0xb1]⟩ 1 none ∈ r_W) (hdd : 1 ≤ d) (hw : (st.map fun v => v.category).sum ≤ 8) (kk : Ru d mt a (pc + 3) L st G M Q) : Ru d mt a pc L (.ref o :: st) G M Q := by
  intro D cA ad p l e s m args below meth c H locs ls A C0
  have C1 := C0
  obtain ⟨⟨hx, hb, hml, hown, hts⟩, h2, h3, h4, hK, hP, hD, hS, hA, hL, hg, hZ⟩ := C0
  have ht := fun w (h : w ∈ r_W) => hts w (List.mem_cons_of_mem _ h)
  have hww : ((st.map (r_cv ad)).map fun v => v.category).sum ≤ 8 := by
    rw [List.map_map]; exact Nat.le_trans (Nat.le_of_eq (by congr 1; apply List.map_congr_left; intro v _; exact r_cv_cat ad v)) hw
  refine W.objInit hx hb hown (ht _ hw1) (ht _ hw2) (ht _ hw3) (g := F0 m pc ls ((Value.ref o :: st).map (r_cv ad))) rfl (by rw [hml]; exact hL.1) rfl hd hdd ?_ ?_
  · show 2 * 0 + ((st.map (r_cv ad)).map fun v => v.category).sum + 12 ≤ 48 * d
    omega
  · exact kk D cA ad p l e s m args below meth c H locs ls A C1
theorem Rn_callI {d' mc ms idx n o : Nat} {mt' : Mt} {As rest : List Value} (hd : decode mt.2.1 pc = .ok (.invokespecial idx, 3)) (hm : r_mc mt.1.cls idx mt' n) (hi1 : mt'.1.name = "<init>") (hi2 : Cond.instanceMethod mt'.1 ∈ r_W) (hret : mt'.2.2.2 = none) (hdd : d' + 1 ≤ d) (hn : As.length = n) (hst : st = As.reverse ++ .ref o :: rest) (hw : (rest.map fun v => v.category).sum ≤ 8) (hf : a.2.1 + mc ≤ a.1.1 ∧ a.2.2 + ms ≤ a.1.2)
    (kk : Ca d' mt' mc ms (.ref o :: As) G M (fun r G' M' => Ru d mt (a.1, (a.2.1 + mc, a.2.2 + ms)) (pc + 3) L (r_push r rest) G' M' Q)) : Ru d mt a pc L st G M Q := by
  subst hst
  intro D cA ad p l e s m args below meth c H locs ls A C
  have C0 := C
  obtain ⟨⟨hx, hb, hml, hown, hts⟩, h2, h3, h4, hK, hP, hD, hS, hA, hL, hg, hZ⟩ := C
  obtain ⟨w1, w2, w3, w4, w5⟩ := hm
  have ht := fun w (h : w ∈ r_W) => hts w (List.mem_cons_of_mem _ h)
  have cb := callB_of (R := r_room d a.1.1 a.1.2) (own := mt.1.cls) (index := idx) (y := mt'.1) (bytes := mt'.2.1) (maxL := mt'.2.2.1) (ret := mt'.2.2.2) (rm := r_room d' mc ms) n hts (r_good w3) rfl rfl rfl (ht _ w2) (ht _ w1) w4 ⟨hdd, by show 8 + (mt'.2.2.1 + 11) + 48 * d' ≤ 48 * d; omega⟩
  rw [hret] at cb
  have hrun := va_runI (e := e) (below := below) (meth := meth) (rest := rest.map (r_cv ad)) (As := As.map (r_cv ad)) (g := F0 m pc ls ((As.reverse ++ .ref o :: rest).map (r_cv ad))) (locs := locs) ⟨hx, hb, hml, hown, hts⟩ (kk l D cA ad H.size) ⟨cb, hi1, ht _ hi2⟩
    ⟨r_pre_blind, fun U hU hW => ⟨rfl, by rw [hU], by rw [hU]; exact hP, va_K.moved hW.alike hK, hD.weaken (fun _ _ _ _ => trivial), hg, by rw [hU]; exact r_St.warm hW ((hZ.kept hS.2.1).narrow (r_fre hD hS hA))⟩⟩
    rfl (by rw [List.length_map]; exact hn) hL.1 (by simp [r_cv]) (lv_room (by rw [List.map_map]; exact Nat.le_trans (Nat.le_of_eq (by congr 1; apply List.map_congr_left; intro v _; exact r_cv_cat ad v)) hw)) hd hf
  exact r_after C0 hrun (fun r G' M' h => by rw [r_push_eq]; exact h)
theorem Rn_callIN {d' mc ms idx n o : Nat} {host : String} {mt' : Mt} {As rest : List Value} (hd : decode mt.2.1 pc = .ok (.invokespecial idx, 3)) (hm : (mt.1.cls, idx, mt'.1, host) ∈ r_nest) (hmf : Cond.initialized mt'.1.cls ∈ r_W ∧ Cond.code mt'.1 mt'.2.1 mt'.2.2.1 mt'.2.2.2 ∈ r_W ∧ (mt'.1.cls ≠ "java/lang/invoke/MethodHandle" ∧ mt'.1.cls ≠ "java/lang/invoke/VarHandle" ∧ (parseMethodDescriptor mt'.1.desc).map (fun d => d.parameters.length) = some n) ∧ mt'.2.2.1 ≤ 29) (hi1 : mt'.1.name = "<init>") (hi2 : Cond.instanceMethod mt'.1 ∈ r_W) (hret : mt'.2.2.2 = none) (hdd : d' + 1 ≤ d) (hn : As.length = n) (hst : st = As.reverse ++ .ref o :: rest) (hw : (rest.map fun v => v.category).sum ≤ 8) (hf : a.2.1 + mc ≤ a.1.1 ∧ a.2.2 + ms ≤ a.1.2)
    (kk : Ca d' mt' mc ms (.ref o :: As) G M (fun r G' M' => Ru d mt (a.1, (a.2.1 + mc, a.2.2 + ms)) (pc + 3) L (r_push r rest) G' M' Q)) : Ru d mt a pc L st G M Q := by
  subst hst
  intro D cA ad p l e s m args below meth c H locs ls A C
  have C0 := C
  obtain ⟨⟨hx, hb, hml, hown, hts⟩, h2, h3, h4, hK, hP, hD, hS, hA, hL, hg, hZ⟩ := C
  obtain ⟨w2, w3, w4, w5⟩ := hmf
  have ht := fun w (h : w ∈ r_W) => hts w (List.mem_cons_of_mem _ h)
  have cb := va_cnB (R := r_room d a.1.1 a.1.2) (own := mt.1.cls) (index := idx) (y := mt'.1) (bytes := mt'.2.1) (maxL := mt'.2.2.1) (ret := mt'.2.2.2) (rm := r_room d' mc ms) n hts (r_good w3) rfl rfl rfl (hZ.2.2.2.2.2.1 _ hm) (ht _ w2) w4 ⟨hdd, by show 8 + (mt'.2.2.1 + 11) + 48 * d' ≤ 48 * d; omega⟩
  rw [hret] at cb
  have hrun := va_runIN (e := e) (below := below) (meth := meth) (rest := rest.map (r_cv ad)) (As := As.map (r_cv ad)) (g := F0 m pc ls ((As.reverse ++ .ref o :: rest).map (r_cv ad))) (locs := locs) ⟨hx, hb, hml, hown, hts⟩ (kk l D cA ad H.size) ⟨cb, hi1, ht _ hi2⟩
    ⟨r_pre_blind, fun U hU hW => ⟨rfl, by rw [hU], by rw [hU]; exact hP, va_K.moved hW.alike hK, hD.weaken (fun _ _ _ _ => trivial), hg, by rw [hU]; exact r_St.warm hW ((hZ.kept hS.2.1).narrow (r_fre hD hS hA))⟩⟩
    rfl (by rw [List.length_map]; exact hn) hL.1 (by simp [r_cv]) (lv_room (by rw [List.map_map]; exact Nat.le_trans (Nat.le_of_eq (by congr 1; apply List.map_congr_left; intro v _; exact r_cv_cat ad v)) hw)) hd hf
  exact r_after C0 hrun (fun r G' M' h => by rw [r_push_eq]; exact h)
end RO
