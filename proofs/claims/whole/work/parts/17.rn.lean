-- THE MAKING OF OBJECTS: worlds that grow, cell by cell, at addresses one behind the other
section RN
variable {d : Nat} {mt : Mt} {a : (Nat × Nat) × (Nat × Nat)} {pc : Nat} {L : Ls} {st : List Value} {G : Wd} {M : Mem} {Q : Rq}
theorem r_gr_sz {ad : Nat → Nat} {n m : Nat} (h : r_gr G ad n) (e : m = n) : r_gr G ad m := e ▸ h
theorem Rn_put {idx ci k N o : Nat} {t : FieldType} {fin : Bool} {v : Value} {M' : Mem} (hfin : fin = false ∨ (mt.1.name = "<init>" ∧ ∃ T, vwCl[ci]? = some (mt.1.cls, T, N))) (hd : decode mt.2.1 pc = .ok (.putfield idx, 3)) (hf : r_fl mt.1.cls idx ci k N t fin) (hs : G.1[o]? = some (ci, N))
    (hn : ∀ ad, narrow t (r_cv ad v) = r_cv ad v) (hfit : ∀ ad, fits t (r_cv ad v) = true) (hv : ∀ ad, r_fv G ad M' o k t = r_cv ad v) (ho : ∀ ad j, j ≠ k → r_fv G ad M' o j (r_ty ci j) = r_fv G ad M o j (r_ty ci j)) (hx : ∀ cA ad o' sh', o' ≠ o → r_el G cA ad M' o' sh' = r_el G cA ad M o' sh')
    (kk : Ru d mt a (pc + 3) L st G M' Q) : Ru d mt a pc L (v :: .ref o :: st) G M Q := by
  intro D cA ad p l e s m args below meth c H locs ls A C
  obtain ⟨⟨hx1, hb, hml, hown, hts⟩, h2, h3, h4, hK, hP, hD, hS, hA, hL, hg, hZ⟩ := C
  obtain ⟨C1, T, hcl, hk, hw, ht, hfn, hdc⟩ := hf
  have he := (r_wo_get (cA := cA) (ad := ad) (M := M) hs).trans (by rw [r_el_obj hcl.2.2.2.2])
  have hset : (r_wo G cA ad M).set o (ad o, .inr (ci, (r_fs G ad M o ci N).set k (r_cv ad v))) = r_wo G cA ad M' :=
    r_wo_set hs (by rw [r_el_obj hcl.2.2.2.2, r_fs_set (by rw [ht]; exact hv ad) (ho ad) hk]) (hx cA ad)
  have hlen : k < (r_fs G ad M o ci N).length := by simp [r_fs]; exact hk
  have hdd : parseFieldDescriptor (T k).2.2.1 = some t := by rw [hcl.2.2.1 k hk, ht]
  have hin : ∀ w ∈ u_ws C1 T N, w ∈ r_ws mt := fun w h => List.mem_cons_of_mem _ (hcl.2.1 w h)
  have hap := va_apart (own := mt.1.cls) hts hin (r_ty ci) hcl.2.2.1 hcl.2.2.2.1 hK hcl.1
  obtain ⟨r, g1, cell, q1, q2, q3, q4⟩ := hP o _ he
  have hr : r = (C1, T, N) := Option.some.inj (g1.symm.trans hcl.1)
  subst hr
  obtain ⟨hSl, hfc, kC, hkC, hkind⟩ := hK.1 ci _ hcl.1
  obtain ⟨cf, kf, fi, f, hi, hsl⟩ := hSl k hk
  have hlay := hts _ (hin _ (u_in_lay hk))
  have hst := (u_facts hfc hkC (u_lays hts hin hk) hi).1
  have hlk := hts _ (List.mem_cons_of_mem _ hw)
  have fin2 : ∀ H' : Heap, H'[ad o]? = some (cell.setSlot f.slot (r_cv ad v)) → H'.size = H.size → (∀ q, q ≠ ad o → H'[q]? = H[q]?) → W p l e (r_room d a.1.1 a.1.2) s m args below meth c H' (locs ++ [⟨ad o, f.slot⟩]) a.2.1 a.2.2 (MQ below (r_Qc D cA ad A Q) args s a.1.1 a.1.2 A) (F0 m (pc + 3) ls (st.map (r_cv ad))) := by
    intro H' e1 e2 e3
    rw [hsl] at e1
    have q5 := hP.set hD he (e := .inr (ci, (r_fs G ad M o ci N).set k (r_cv ad v))) ⟨_, hcl.1, t_OB.to (V := updV (vp_V (r_fs G ad M o ci N)) k (r_cv ad v)) ⟨_, e1, q2, q3, t_set q4 hap hk _⟩ (fun j _ => vp_updV_set hlen _ j)⟩ e3
    have q6 := hD.set (e := .inr (ci, (r_fs G ad M o ci N).set k (r_cv ad v))) he
    rw [hset] at q5 q6
    exact kk D cA ad p l e s m args below meth c H' _ ls A ⟨⟨hx1, hb, hml, hown, hts⟩, h2, h3, h4, hK, q5, q6, hS.put e2 e3 (hD.2 o _ he), hA, hL, r_gr_sz hg e2, hZ⟩
  have hlt : f.slot < cell.slots.size := by rw [hsl]; exact k2_hasslot (q4 k hk)
  rcases Bool.eq_false_or_eq_true fin with hft | hft
  · rcases hfin with hz | ⟨hin2, T2, hT2⟩
    · rw [hft] at hz; cases hz
    · have hC : C1 = mt.1.cls := by
        have := hcl.1.symm.trans hT2
        exact congrArg (fun x : vw_C => x.1) (Option.some.inj this)
      unfold u_lay at hlay
      rw [if_pos (hfn.trans hft)] at hlay
      have hcf : m.cls = cf := by
        obtain ⟨_, _, c', _, _, _, -, -, hf', -, -, -, hown2, -⟩ := Cond.laysFinal_spec hlay
        have e1 : c' = cf := by have := hi.symm.trans hf'; simp at this; exact this.1.symm
        rw [hdc, hC] at hown2
        rw [← e1]; exact Option.some.inj (hown.symm.trans hown2)
      have h6 := u_fits hfc hkC hkind (Or.inr hlay) hi hdd (hn ad) (hfit ad)
      exact W.putFinK hx1 hb hown hlk hi hst hcf (h4.trans hin2) (by rw [q2]; exact h6) q1 q3 hlt rfl rfl hd fin2
  · unfold u_lay at hlay
    rw [if_neg (by rw [hfn, hft]; decide)] at hlay
    have h6 := u_store hfc hkC hkind hlay hi hdd (hn ad) (hfit ad)
    exact W.putK hx1 hb (f := f) ⟨hown, hlk, ⟨_, _, _, hi⟩, hst⟩ (by rw [q2]; exact h6) q1 q3 hlt rfl rfl hd fin2
theorem Rn_putI {idx ci k N o : Nat} {fin : Bool} {x : Int32} (hfin : fin = false ∨ (mt.1.name = "<init>" ∧ ∃ T, vwCl[ci]? = some (mt.1.cls, T, N))) (hd : decode mt.2.1 pc = .ok (.putfield idx, 3)) (hf : r_fl mt.1.cls idx ci k N .int fin) (hs : G.1[o]? = some (ci, N)) (kk : Ru d mt a (pc + 3) L st G (r_sI M o k x) Q) : Ru d mt a pc L (.int x :: .ref o :: st) G M Q := by
  refine Rn_put hfin hd hf hs (fun _ => rfl) (fun _ => rfl) (fun ad => ?_) (fun ad j hj => ?_) (fun cA ad o' sh' h => r_sI_el o' sh' h) kk
  · simp [r_fv, r_sI, upd, r_cv]
  · unfold r_fv
    split <;> first | rfl | (simp [r_sI, upd, hj])
theorem Rn_putJ {idx ci k N o : Nat} {fin : Bool} {x : Int64} (hfin : fin = false ∨ (mt.1.name = "<init>" ∧ ∃ T, vwCl[ci]? = some (mt.1.cls, T, N))) (hd : decode mt.2.1 pc = .ok (.putfield idx, 3)) (hf : r_fl mt.1.cls idx ci k N .long fin) (hs : G.1[o]? = some (ci, N)) (kk : Ru d mt a (pc + 3) L st G (r_sJ M o k x) Q) : Ru d mt a pc L (.long x :: .ref o :: st) G M Q := by
  refine Rn_put hfin hd hf hs (fun _ => rfl) (fun _ => rfl) (fun ad => ?_) (fun ad j hj => ?_) (fun cA ad o' sh' h => r_sJ_el o' sh' h) kk
  · simp [r_fv, r_sJ, vp_updL, r_cv]
  · unfold r_fv
    split <;> first | rfl | (simp [r_sJ, vp_updL, hj])
theorem Rn_putR {idx ci k N o : Nat} {t : FieldType} {fin : Bool} {x : Nat} (hfin : fin = false ∨ (mt.1.name = "<init>" ∧ ∃ T, vwCl[ci]? = some (mt.1.cls, T, N))) (hd : decode mt.2.1 pc = .ok (.putfield idx, 3)) (hf : r_fl mt.1.cls idx ci k N t fin) (ht : r_ri t = true) (hs : G.1[o]? = some (ci, N)) (hfr : G.2.1 o k = none) (kk : Ru d mt a (pc + 3) L st G (r_sR M o k (some x)) Q) : Ru d mt a pc L (.ref x :: .ref o :: st) G M Q := by
  refine Rn_put hfin hd hf hs (fun _ => by cases t <;> first | rfl | (cases ht)) (fun _ => by cases t <;> first | rfl | (cases ht)) (fun ad => ?_) (fun ad j hj => ?_) (fun cA ad o' sh' h => r_sR_el o' sh' h) kk
  · have e : r_rf G (r_sR M o k (some x)) o k = some x := by simp [r_rf, hfr, r_sR, va_up]
    cases t <;> first | (cases ht; done) | (simp only [r_fv, e]; rfl)
  · have e : r_rf G (r_sR M o k (some x)) o j = r_rf G M o j := by
      simp [r_rf, r_sR, va_up, hj]
    unfold r_fv
    split <;> first | rfl | (rw [e])
theorem Rn_iast {o n j : Nat} {x : Int32} (hd : decode mt.2.1 pc = .ok (.iastore, 1)) (hs : G.1[o]? = some (100, n)) (hj : j < n ∧ n < 2147483648) (kk : Ru d mt a (pc + 1) L st G (r_sI M o j x) Q) : Ru d mt a pc L (.int x :: .int (nI j) :: .ref o :: st) G M Q := by
  intro D cA ad p l e s m args below meth c H locs ls A C
  obtain ⟨⟨hx, hb, hml, hown, hts⟩, h2, h3, h4, hK, hP, hD, hS, hA, hL, hg, hZ⟩ := C
  have he := (r_wo_get (cA := cA) (ad := ad) (M := M) hs).trans (by rw [r_el_int (Or.inl rfl)])
  refine W.iast hx hb (hP o _ he) ((hK.2 0 _ rfl).1 n (fun j => .int (M.1 o j))) (fun q => by cases q) (by show ¬ (nI j < 0 ∨ (arrV _ _ _).slots.size ≤ _); rw [arrV_size]; exact vp_in_nI hj.1 hj.2) rfl rfl hd fun H1 e z oq => ?_
  have q1 : va_P D vwCl ((r_wo G cA ad M).set o (ad o, .inl (cA 0, n, .inl (upd (M.1 o) j x)))) H1 := by
    refine hP.set hD he ?_ oq
    show H1[ad o]? = some (vp_cell _ _)
    rw [e, nI_clamp (show j < 2 ^ 31 by omega)]
    rw [vp_cell_i, vp_cell_i, arrV_store]
    congr 2
    funext q
    by_cases hq : q = j
    · subst hq
      simp [updV, upd]
    · simp [updV, upd, hq]
  have q2 := hD.set (e := .inl (cA 0, n, .inl (upd (M.1 o) j x))) he
  rw [r_wo_set (M' := r_sI M o j x) hs (by rw [r_el_int (Or.inl rfl), r_sI_1]) (fun o' sh' h => r_sI_el o' sh' h)] at q1 q2
  exact kk D cA ad p l _ s m args below meth c H1 _ ls A ⟨⟨hx, hb, hml, hown, hts⟩, h2, h3, h4, hK, q1, q2, hS.put z oq (hD.2 o _ he), hA, hL, r_gr_sz hg z, hZ⟩
theorem Rn_last {o n j : Nat} {x : Int64} (hd : decode mt.2.1 pc = .ok (.lastore, 1)) (hs : G.1[o]? = some (101, n)) (hj : j < n ∧ n < 2147483648) (kk : Ru d mt a (pc + 1) L st G (r_sJ M o j x) Q) : Ru d mt a pc L (.long x :: .int (nI j) :: .ref o :: st) G M Q := by
  intro D cA ad p l e s m args below meth c H locs ls A C
  obtain ⟨⟨hx, hb, hml, hown, hts⟩, h2, h3, h4, hK, hP, hD, hS, hA, hL, hg, hZ⟩ := C
  have he := (r_wo_get (cA := cA) (ad := ad) (M := M) hs).trans (by rw [r_el_long])
  refine W.last hx hb (hP o _ he) ((hK.2 1 _ rfl).1 n (fun j => .long (M.2.1 o j))) (fun q => by cases q) (by show ¬ (nI j < 0 ∨ (arrV _ _ _).slots.size ≤ _); rw [arrV_size]; exact vp_in_nI hj.1 hj.2) rfl rfl hd fun H1 e z oq => ?_
  have q1 : va_P D vwCl ((r_wo G cA ad M).set o (ad o, .inl (cA 1, n, .inr (.inl (vp_updL (M.2.1 o) j x))))) H1 := by
    refine hP.set hD he ?_ oq
    show H1[ad o]? = some (vp_cell _ _)
    rw [e, nI_clamp (show j < 2 ^ 31 by omega)]
    rw [vp_cell_l, vp_cell_l, arrV_store]
    congr 2
    funext q
    by_cases hq : q = j
    · subst hq
      simp [updV, vp_updL]
    · simp [updV, vp_updL, hq]
  have q2 := hD.set (e := .inl (cA 1, n, .inr (.inl (vp_updL (M.2.1 o) j x)))) he
  rw [r_wo_set (M' := r_sJ M o j x) hs (by rw [r_el_long]; simp [r_sJ]) (fun o' sh' h => r_sJ_el o' sh' h)] at q1 q2
  exact kk D cA ad p l _ s m args below meth c H1 _ ls A ⟨⟨hx, hb, hml, hown, hts⟩, h2, h3, h4, hK, q1, q2, hS.put z oq (hD.2 o _ he), hA, hL, r_gr_sz hg z, hZ⟩
theorem Rn_aast {o n j kd ci N v : Nat} (hd : decode mt.2.1 pc = .ok (.aastore, 1)) (hs : G.1[o]? = some (kd, n)) (hkd : (kd = 104 ∧ ci = 9) ∨ (kd = 105 ∧ ci = 10)) (hsv : G.1[v]? = some (ci, N)) (hj : j < n ∧ n < 2147483648) (kk : Ru d mt a (pc + 1) L st G (r_sR M o j (some v)) Q) : Ru d mt a pc L (.ref v :: .int (nI j) :: .ref o :: st) G M Q := by
  intro D cA ad p l e s m args below meth c H locs ls A C
  obtain ⟨⟨hx, hb, hml, hown, hts⟩, h2, h3, h4, hK, hP, hD, hS, hA, hL, hg, hZ⟩ := C
  obtain ⟨t0, r, ht0, hcr, hk', hci⟩ : ∃ (t0 : Nat) (r : vw_C), (r_tys cA)[t0]? = some (cA (kd - 100), .object r.1) ∧ vwCl[ci]? = some r ∧ (kd = 104 ∨ kd = 105) ∧ ci < 100 := by
    rcases hkd with ⟨rfl, rfl⟩ | ⟨rfl, rfl⟩
    · exact ⟨4, (RX9, TX9, 21), rfl, rfl, Or.inl rfl, by decide⟩
    · exact ⟨5, (RX10, TX10, 3), rfl, rfl, Or.inr rfl, by decide⟩
  have he := (r_wo_get (cA := cA) (ad := ad) (M := M) hs).trans (by rw [r_el_ref hk'])
  have hev := (r_wo_get (cA := cA) (ad := ad) (M := M) hsv).trans (by rw [r_el_obj hci])
  obtain ⟨r', hr', cellV, g1, g2, g3, -⟩ := hP v _ hev
  have hcls := (hK.1 ci r hcr).2
  obtain ⟨kA, comp, k1, k2, k3, -⟩ := (hK.2 t0 _ ht0).2
  have hcomp : comp = D.1 ci := Option.some.inj (k3.symm.trans hcls.1)
  subst hcomp
  obtain ⟨kC, hkC, -⟩ := hcls.2
  have hin := vp_in_nI hj.1 hj.2
  refine W.aast hx hb (hP o _ he) (fun q h => by cases h) (fun h => by cases h) k1 k2 rfl hkC ⟨fun q => hin (Or.inl q), by show _ < (arrV _ _ _).slots.size; rw [arrV_size]; exact Nat.not_le.mp fun q => hin (Or.inr q)⟩ g1 (fun q h => by rw [g3] at h; cases h) (by rw [g2]; exact hkC) (by rw [g2]; exact va_assign hcls) rfl rfl hd fun H1 e z oq => ?_
  have q1 : va_P D vwCl ((r_wo G cA ad M).set o (ad o, .inl (cA (kd - 100), n, .inr (.inr (.inr (.inr (va_up (fun k => (M.2.2 o k).map ad) j (some (ad v)))))))))  H1 := by
    refine hP.set hD he ?_ oq
    show H1[ad o]? = some (vp_cell _ _)
    rw [e, nI_clamp (show j < 2 ^ 31 by omega)]
    rw [vp_cell_q, vp_cell_q, arrV_store]
    congr 2
    funext q
    by_cases hq : q = j
    · subst hq
      simp [updV, va_up, va_rf, r_cv]
    · simp [updV, va_up, hq]
  have q2 := hD.set (e := .inl (cA (kd - 100), n, .inr (.inr (.inr (.inr (va_up (fun k => (M.2.2 o k).map ad) j (some (ad v)))))))) he
  have hset : (r_wo G cA ad M).set o (ad o, .inl (cA (kd - 100), n, .inr (.inr (.inr (.inr (va_up (fun k => (M.2.2 o k).map ad) j (some (ad v)))))))) = r_wo G cA ad (r_sR M o j (some v)) := by
    refine r_wo_set hs ?_ (fun o' sh' h => r_sR_el o' sh' h)
    rw [r_el_ref hk']
    have : (fun k => ((r_sR M o j (some v)).2.2 o k).map ad) = va_up (fun k => (M.2.2 o k).map ad) j (some (ad v)) := by
      funext k
      by_cases hk : k = j <;> simp [r_sR, va_up, hk]
    rw [this]
  rw [hset] at q1 q2
  exact kk D cA ad p l _ s m args below meth c H1 _ ls A ⟨⟨hx, hb, hml, hown, hts⟩, h2, h3, h4, hK, q1, q2, hS.put z oq (hD.2 o _ he), hA, hL, r_gr_sz hg z, hZ⟩
end RN
