-- ENTRY, RETURN, CALLS
def r_ag : Nat → List Value → Ls
  | _, [] => []
  | i, v :: vs => (i, some v) :: r_ag (if v.category = 2 then i + 2 else i + 1) vs
theorem r_ag_mem {ad : Nat → Nat} : ∀ (av : List Value) (i k : Nat) (v : Value), r_lget (r_ag i av) k = some v → (k, r_cv ad v) ∈ lv_args i (av.map (r_cv ad))
  | [], _, _, _, h => by simp [r_ag, r_lget] at h
  | w :: ws, i, k, v, h => by
    unfold r_ag at h
    rw [List.map_cons]
    unfold lv_args
    by_cases hik : i = k
    · subst hik
      have hv : w = v := by simpa [r_lget] using h
      subst hv
      exact List.mem_cons_self
    · have h2 : r_lget (r_ag (if w.category = 2 then i + 2 else i + 1) ws) k = some v := by simpa [r_lget, hik] using h
      rw [r_cv_cat]
      exact List.mem_cons_of_mem _ (r_ag_mem ws _ k v h2)
theorem r_sl_len (ad : Nat → Nat) : ∀ (av : List Value), (lg_sl (av.map (r_cv ad))).length = (lg_sl av).length
  | [] => rfl
  | v :: vs => by
    have ih := r_sl_len ad vs
    simp only [lg_sl, List.map_cons, List.flatMap_cons, List.length_append, r_cv_cat] at ih ⊢
    rw [ih]
    congr 1
    split <;> rfl
theorem Ca_of {d : Nat} {mt : Mt} {mc ms : Nat} {av : List Value} {G : Wd} {M : Mem} {Q : Rq} (hp : plainName mt.1.cls = true) (hl : (lg_sl av).length ≤ mt.2.2.1) (kk : Ru d mt ((mc, ms), (0, 0)) 0 (r_ag 0 av) [] G M Q) : Ca d mt mc ms av G M Q := by
  intro l D cA ad sz
  refine Met.ofW (cc := mt.2.1) (maxL := mt.2.2.1) (ret := mt.2.2.2) hp rfl ?_
  intro p e s m args below meth c s₁ B hml hv
  obtain ⟨rfl, hsz, hP, hK, hD0, hg, hZ⟩ := hv
  have hts := atoms_spec (ws := r_ws mt) B.pre
  have hown : s.vm.findClass mt.1.cls = some m.cls := findClass_of_methodNamed B.named
  have hin : meth.name = mt.1.name := (name_of_methodNamed B.named B.method).1
  have hlk : meth.locks = false := B.notSynchronized
  have hl' : (lg_sl (av.map (r_cv ad))).length ≤ mt.2.2.1 := by rw [r_sl_len]; exact hl
  have hle := lv_entry (av.map (r_cv ad)) hl'
  subst hsz
  rw [lg_entry_eq]
  exact kk D cA ad p l e s m _ below meth c s.heap [] _ (va_A (r_wo G cA ad M) s.heap.size) ⟨⟨B.exec, B.bytes, hml, hown, hts⟩, hlk, B.returns, hin, hK, hP, hD0.self, va_S.rf, fun q h => Or.inr h, ⟨hle.1, hle.2.1, fun k v hk => hle.2.2 _ (r_ag_mem av 0 k v hk)⟩, hg, hZ⟩
theorem Ca_ofF {d : Nat} {mt : Mt} {mc ms : Nat} {av : List Value} {G : Wd} {M : Mem} {Q : Rq} (hp : plainFor mt.1 = true) (hl : (lg_sl av).length ≤ mt.2.2.1) (kk : Ru d mt ((mc, ms), (0, 0)) 0 (r_ag 0 av) [] G M Q) : Ca d mt mc ms av G M Q := by
  intro l D cA ad sz
  refine va_MetF (cc := mt.2.1) (maxL := mt.2.2.1) (ret := mt.2.2.2) hp rfl ?_
  intro p e s m args below meth c s₁ B hml hv
  obtain ⟨rfl, hsz, hP, hK, hD0, hg, hZ⟩ := hv
  have hts := atoms_spec (ws := r_ws mt) B.pre
  have hown : s.vm.findClass mt.1.cls = some m.cls := findClass_of_methodNamed B.named
  have hin : meth.name = mt.1.name := (name_of_methodNamed B.named B.method).1
  have hlk : meth.locks = false := B.notSynchronized
  have hl' : (lg_sl (av.map (r_cv ad))).length ≤ mt.2.2.1 := by rw [r_sl_len]; exact hl
  have hle := lv_entry (av.map (r_cv ad)) hl'
  subst hsz
  rw [lg_entry_eq]
  exact kk D cA ad p l e s m _ below meth c s.heap [] _ (va_A (r_wo G cA ad M) s.heap.size) ⟨⟨B.exec, B.bytes, hml, hown, hts⟩, hlk, B.returns, hin, hK, hP, hD0.self, va_S.rf, fun q h => Or.inr h, ⟨hle.1, hle.2.1, fun k v hk => hle.2.2 _ (r_ag_mem av 0 k v hk)⟩, hg, hZ⟩
section RC
variable {d : Nat} {mt : Mt} {a : (Nat × Nat) × (Nat × Nat)} {pc : Nat} {L : Ls} {st : List Value} {G : Wd} {M : Mem} {Q : Rq}
theorem Ru_iret {x : Int32} (hd : decode mt.2.1 pc = .ok (.ireturn, 1)) (hr : mt.2.2.2 = some .int) (hle : a.2.1 ≤ a.1.1 ∧ a.2.2 ≤ a.1.2) (hq : Q (some (.int x)) G M) : Ru d mt a pc L [.int x] G M Q := by
  intro D cA ad p l e s m args below meth c H locs ls A C
  obtain ⟨⟨hx, hb, hml, hown, hts⟩, h2, h3, h4, hK, hP, hD, hS, hA, hL, hg, hZ⟩ := C
  refine W.widen hle.1 hle.2 (W.iret hx hb (h3.trans hr) (fun t ht hW => ⟨⟨some (.int x), G, M, rfl, hq, by rw [ht]; exact hP, va_K.moved hW.alike hK, hD, by rw [ht]; exact hg⟩, hS.F ht⟩) hS.2.2 hd h2)
theorem Ru_zret {x : Int32} (hd : decode mt.2.1 pc = .ok (.ireturn, 1)) (hr : mt.2.2.2 = some .boolean) (hle : a.2.1 ≤ a.1.1 ∧ a.2.2 ≤ a.1.2) (h01 : x = 0 ∨ x = 1) (hq : Q (some (.int x)) G M) : Ru d mt a pc L [.int x] G M Q := by
  intro D cA ad p l e s m args below meth c H locs ls A C
  obtain ⟨⟨hx, hb, hml, hown, hts⟩, h2, h3, h4, hK, hP, hD, hS, hA, hL, hg, hZ⟩ := C
  refine W.widen hle.1 hle.2 (W.zret hx hb (h3.trans hr) (by rcases h01 with rfl | rfl <;> rfl) (fun t ht hW => ⟨⟨some (.int x), G, M, rfl, hq, by rw [ht]; exact hP, va_K.moved hW.alike hK, hD, by rw [ht]; exact hg⟩, hS.F ht⟩) hS.2.2 hd h2)
theorem Ru_lret {x : Int64} (hd : decode mt.2.1 pc = .ok (.lreturn, 1)) (hr : mt.2.2.2 = some .long) (hle : a.2.1 ≤ a.1.1 ∧ a.2.2 ≤ a.1.2) (hq : Q (some (.long x)) G M) : Ru d mt a pc L [.long x] G M Q := by
  intro D cA ad p l e s m args below meth c H locs ls A C
  obtain ⟨⟨hx, hb, hml, hown, hts⟩, h2, h3, h4, hK, hP, hD, hS, hA, hL, hg, hZ⟩ := C
  refine W.widen hle.1 hle.2 (W.lret hx hb (h3.trans hr) (fun t ht hW => ⟨⟨some (.long x), G, M, rfl, hq, by rw [ht]; exact hP, va_K.moved hW.alike hK, hD, by rw [ht]; exact hg⟩, hS.F ht⟩) hS.2.2 hd h2)
theorem Ru_vret (hd : decode mt.2.1 pc = .ok (.return_, 1)) (hr : mt.2.2.2 = none) (hle : a.2.1 ≤ a.1.1 ∧ a.2.2 ≤ a.1.2) (hq : Q none G M) : Ru d mt a pc L [] G M Q := by
  intro D cA ad p l e s m args below meth c H locs ls A C
  obtain ⟨⟨hx, hb, hml, hown, hts⟩, h2, h3, h4, hK, hP, hD, hS, hA, hL, hg, hZ⟩ := C
  refine W.widen hle.1 hle.2 (W.vret hx hb (h3.trans hr) (fun t ht hW => ⟨⟨none, G, M, rfl, hq, by rw [ht]; exact hP, va_K.moved hW.alike hK, hD, by rw [ht]; exact hg⟩, hS.F ht⟩) hS.2.2 hd h2)
theorem Ru_aret {x : Nat} {n : String} (hd : decode mt.2.1 pc = .ok (.areturn, 1)) (hr : mt.2.2.2 = some (.object n)) (hle : a.2.1 ≤ a.1.1 ∧ a.2.2 ≤ a.1.2) (hq : Q (some (.ref x)) G M) : Ru d mt a pc L [.ref x] G M Q := by
  intro D cA ad p l e s m args below meth c H locs ls A C
  obtain ⟨⟨hx, hb, hml, hown, hts⟩, h2, h3, h4, hK, hP, hD, hS, hA, hL, hg, hZ⟩ := C
  refine W.widen hle.1 hle.2 (W.aret hx hb (h3.trans hr) (Or.inl ⟨_, rfl⟩) (Or.inr ⟨_, rfl⟩) (fun t ht hW => ⟨⟨some (.ref x), G, M, rfl, hq, by rw [ht]; exact hP, va_K.moved hW.alike hK, hD, by rw [ht]; exact hg⟩, hS.F ht⟩) hS.2.2 hd h2)
theorem r_fre {cA : Nat → ClassId} {ad : Nat → Nat} {s : State} {H : Heap} {locs : List Loc} {A : Nat → Prop} (hD : va_D A (r_wo G cA ad M)) (hS : va_S A s.heap H locs) (hA : ∀ q, s.heap.size ≤ q → A q) : ∀ q, va_A (r_wo G cA ad M) H.size q → A q := by
  intro q h
  rcases h with ⟨k, x, h⟩ | h
  · exact hD.2 k _ h
  · exact hA q (Nat.le_trans hS.1 h)
theorem r_after {D : va_G} {cA : Nat → ClassId} {ad : Nat → Nat} {p : Program} {l : Launch} {e : Env} {s : State} {m : MethodId} {args : Array Value} {below : List Frame} {meth : Method} {c : Code} {H : Heap} {locs : List Loc} {ls : Array Slot} {A : Nat → Prop} {mc ms : Nat} {st0 rest : List Value} {a0 : Array Value} {Q' : Rq}
    (C : r_Cx G mt L M D cA ad p s m args meth c H locs ls A)
    (hr : va_Run p l e (r_room d a.1.1 a.1.2) s m args below meth c H locs a.2.1 a.2.2 mc ms (F0 m pc ls st0) (rest.map (r_cv ad)) (r_Qc D cA ad (va_A (r_wo G cA ad M) H.size) Q' a0) (va_A (r_wo G cA ad M) H.size))
    (hQ : ∀ r G' M', Q' r G' M' → Ru d mt (a.1, (a.2.1 + mc, a.2.2 + ms)) (pc + 3) L (r.toList ++ rest) G' M' Q) :
    W p l e (r_room d a.1.1 a.1.2) s m args below meth c H locs a.2.1 a.2.2 (MQ below (r_Qc D cA ad A Q) args s a.1.1 a.1.2 A) (F0 m pc ls st0) := by
  obtain ⟨h1, h2, h3, h4, hK, hP, hD, hS, hA, hL, hg, hZ⟩ := C
  have hfree : ∀ q, va_A (r_wo G cA ad M) H.size q → A q := by
    intro q h
    rcases h with ⟨k, x, h⟩ | h
    · exact hD.2 k _ h
    · exact hA q (Nat.le_trans hS.1 h)
  intro T hT X
  obtain ⟨v, st₀, t, T', Lx, h0, X', hLx, e1, e2, ⟨⟨r, G', M', hv, hq, hP1, hK1, hD1, hg1⟩, hz, hk⟩, st1⟩ := hr T hT X
  have hv2 : v = r.map (r_cv ad) := Outcome.returned.inj hv
  subst hv2
  rw [h0] at hz hk
  have hS1 : va_S A s.heap T'.heap (locs ++ Lx) := by
    refine ⟨Nat.le_trans hS.1 (by rw [e1]; exact hz), fun q g1 g2 => ?_, fun q hq => ?_⟩
    · rw [e1, hk q (Nat.lt_of_lt_of_le g1 hS.1) (fun z => g2 (hfree q z))]
      exact hS.2.1 q g1 g2
    · rcases List.mem_append.mp hq with h | h
      · exact hS.2.2 q h
      · exact hfree _ (hLx q h)
  have hst : (r.toList ++ rest).map (r_cv ad) = (r.map (r_cv ad)).toList ++ rest.map (r_cv ad) := by cases r <;> simp
  have key := hQ r G' M' hq D cA ad p l e s m args below meth c T'.heap (locs ++ Lx) ls A ⟨h1, h2, h3, h4, hK, by rw [e1]; exact hP1, hD1.weaken (fun _ _ _ z => hfree _ z), hS1, hA, hL, by rw [e1]; exact hg1, hZ⟩
  rw [hst] at key
  obtain ⟨t2, a1, b1⟩ := key T' rfl X'
  exact ⟨t2, st1 t2 a1, b1⟩
theorem r_pre_blind {D : va_G} {cA : Nat → ClassId} {ad : Nat → Nat} {sz : Nat} {av : List Value} : FrameBlind (va_Pc av (r_Pre D cA ad sz G M)) := by
  intro x U g mk h
  obtain ⟨h1, h2, h3, h4, h5, h6, h7⟩ := h
  exact ⟨h1, h2, h3, va_K.moved (u := U) (U := U.calling g mk x) (Vm.Alike.refl U.vm) h4, h5, h6, r_St.same (s := U) rfl h7⟩
theorem Ru_callV {d' mc ms idx n ci N o : Nat} {mt' : Mt} {As rest : List Value} (hd : decode mt.2.1 pc = .ok (.invokevirtual idx, 3)) (hm : r_mv mt.1.cls idx mt' n ci N) (hs : G.1[o]? = some (ci, N)) (hdd : d' + 1 ≤ d) (hn : As.length = n) (hst : st = As.reverse ++ .ref o :: rest) (hw : (rest.map fun v => v.category).sum ≤ 8) (hf : a.2.1 + mc ≤ a.1.1 ∧ a.2.2 + ms ≤ a.1.2)
    (kk : Ca d' mt' mc ms (.ref o :: As) G M (fun r G' M' => Ru d mt (a.1, (a.2.1 + mc, a.2.2 + ms)) (pc + 3) L (r.toList ++ rest) G' M' Q)) : Ru d mt a pc L st G M Q := by
  subst hst
  intro D cA ad p l e s m args below meth c H locs ls A C
  have C0 := C
  obtain ⟨⟨hx, hb, hml, hown, hts⟩, h2, h3, h4, hK, hP, hD, hS, hA, hL, hg, hZ⟩ := C
  obtain ⟨⟨w1, w2, w3, w4, w5⟩, w6, w7, ⟨T, w8⟩, w9⟩ := hm
  have he := (r_wo_get (cA := cA) (ad := ad) (M := M) hs).trans (by rw [r_el_obj w9])
  have ht := fun w (h : w ∈ r_W) => hts w (List.mem_cons_of_mem _ h)
  have cb := callB_of (R := r_room d a.1.1 a.1.2) (own := mt.1.cls) (index := idx) (y := mt'.1) (bytes := mt'.2.1) (maxL := mt'.2.2.1) (ret := mt'.2.2.2) (rm := r_room d' mc ms) n hts (r_good w3) rfl rfl rfl (ht _ w2) (ht _ w1) w4 ⟨hdd, by show 8 + (mt'.2.2.1 + 11) + 48 * d' ≤ 48 * d; omega⟩
  have hrun := va_runV (e := e) (below := below) (meth := meth) (rest := rest.map (r_cv ad)) (As := As.map (r_cv ad)) (g := F0 m pc ls ((As.reverse ++ .ref o :: rest).map (r_cv ad))) (locs := locs) ⟨hx, hb, hml, hown, hts⟩ (kk l D cA ad H.size) ⟨cb, ht _ w6, ht _ w7⟩
    ⟨r_pre_blind, va_recv hK hP w8 he, fun U hU hW => ⟨rfl, by rw [hU], by rw [hU]; exact hP, va_K.moved hW.alike hK, hD.weaken (fun _ _ _ _ => trivial), hg, by rw [hU]; exact r_St.warm hW ((hZ.kept hS.2.1).narrow (r_fre hD hS hA))⟩⟩
    rfl (by rw [List.length_map]; exact hn) hL.1 (by simp [r_cv]) (lv_room (by rw [List.map_map]; exact Nat.le_trans (Nat.le_of_eq (by congr 1; apply List.map_congr_left; intro v _; exact r_cv_cat ad v)) hw)) hd hf
  exact r_after C0 hrun (fun r G' M' h => h)
theorem Ru_callS {d' mc ms idx n : Nat} {mt' : Mt} {As rest : List Value} (hd : decode mt.2.1 pc = .ok (.invokestatic idx, 3)) (hm : r_ms mt.1.cls idx mt' n) (hdd : d' + 1 ≤ d) (hn : As.length = n) (hst : st = As.reverse ++ rest) (hw : (rest.map fun v => v.category).sum ≤ 8) (hf : a.2.1 + mc ≤ a.1.1 ∧ a.2.2 + ms ≤ a.1.2)
    (kk : Ca d' mt' mc ms As G M (fun r G' M' => Ru d mt (a.1, (a.2.1 + mc, a.2.2 + ms)) (pc + 3) L (r.toList ++ rest) G' M' Q)) : Ru d mt a pc L st G M Q := by
  subst hst
  intro D cA ad p l e s m args below meth c H locs ls A C
  have C0 := C
  obtain ⟨⟨hx, hb, hml, hown, hts⟩, h2, h3, h4, hK, hP, hD, hS, hA, hL, hg, hZ⟩ := C
  obtain ⟨⟨w1, w2, w3, w4, w5⟩, w6⟩ := hm
  have ht := fun w (h : w ∈ r_W) => hts w (List.mem_cons_of_mem _ h)
  have cb := callB_of (R := r_room d a.1.1 a.1.2) (own := mt.1.cls) (index := idx) (y := mt'.1) (bytes := mt'.2.1) (maxL := mt'.2.2.1) (ret := mt'.2.2.2) (rm := r_room d' mc ms) n hts (r_good w3) rfl rfl rfl (ht _ w2) (ht _ w1) w4 ⟨hdd, by show 8 + (mt'.2.2.1 + 11) + 48 * d' ≤ 48 * d; omega⟩
  have hrun := va_runS (e := e) (below := below) (meth := meth) (rest := rest.map (r_cv ad)) (As := As.map (r_cv ad)) (g := F0 m pc ls ((As.reverse ++ rest).map (r_cv ad))) (locs := locs) ⟨hx, hb, hml, hown, hts⟩ (kk l D cA ad H.size) ⟨cb, ht _ w6⟩
    ⟨r_pre_blind, fun U hU hW => ⟨rfl, by rw [hU], by rw [hU]; exact hP, va_K.moved hW.alike hK, hD.weaken (fun _ _ _ _ => trivial), hg, by rw [hU]; exact r_St.warm hW ((hZ.kept hS.2.1).narrow (r_fre hD hS hA))⟩⟩
    rfl (by rw [List.length_map]; exact hn) hL.1 (by simp [r_cv]) (lv_room (by rw [List.map_map]; exact Nat.le_trans (Nat.le_of_eq (by congr 1; apply List.map_congr_left; intro v _; exact r_cv_cat ad v)) hw)) hd hf
  exact r_after C0 hrun (fun r G' M' h => h)
end RC
