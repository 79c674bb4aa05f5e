theorem lw_good {mt' : Mt} (h : Cond.code mt'.1 mt'.2.1 mt'.2.2.1 mt'.2.2.2 ∈ r_W) : GoodIn lw_tbl (r_ws mt') := by
  intro w hw
  rcases List.mem_cons.mp hw with rfl | hw
  · exact ⟨(List.mem_filter.mp h).1, good_of_word (List.mem_filter.mp h).2⟩
  · exact ⟨(List.mem_filter.mp hw).1, good_of_word (List.mem_filter.mp hw).2⟩
section RL2
variable {p : Program} {l : Launch} {e : Env} {s : State} {m : MethodId} {below : List Frame} {meth : Method} {c : Code} {b L : Nat} {xs : Nat → Int32} {D : va_G} {cA : Nat → ClassId} {adX adY : Nat → Nat} {cells slots pc j : Nat} {st : List Value} {Mx My : Mem} {i : Int32}
theorem lw_run {H : Heap} {locs : List Loc} {ls : Array Slot} {G : Wd} {ad : Nat → Nat} {M : Mem} {d' idx n ci N : Nat} {mt' : Mt} {As rest : List Value} {Q' : Rq} (C : lw_At p s m meth c b L xs) (hK : va_K D vwCl (r_tys cA) s) (hg0 : G.2.2 = false) (hS : va_S (fun q => s.heap.size ≤ q) s.heap H locs) (hP : va_P D vwCl (r_wo G cA ad M) H) (hD : va_D (fun q => s.heap.size ≤ q) (r_wo G cA ad M)) (hZ : r_St ad (fun q => s.heap.size ≤ q) s s.heap) (hls : ls.size = 4)
    (hd : decode cL_law pc = .ok (.invokevirtual idx, 3)) (hm : r_mv RL idx mt' n ci N) (hs : G.1[0]? = some (ci, N)) (hdd : d' ≤ 1000) (hn : As.length = n) (hcv : As.map (r_cv ad) = As) (hw : (rest.map fun v => v.category).sum ≤ 8) (hf : cells ≤ 600000 ∧ slots ≤ 7302250)
    (kk : Ca d' mt' 0 0 (.ref 0 :: As) G M Q') : va_Run p l e room_1 s m #[Value.ref b] below meth c H locs cells slots 0 0 (F0 m pc ls (As.reverse ++ .ref (ad 0) :: rest)) rest (r_Qc D cA ad (va_A (r_wo G cA ad M) H.size) Q' (Value.ref (ad 0) :: As).toArray) (va_A (r_wo G cA ad M) H.size) := by
  obtain ⟨hx, hb, hr, hml, hown, hts, -⟩ := C
  obtain ⟨⟨w1, w2, w3, w4, w5⟩, w6, w7, ⟨T, w8⟩, w9⟩ := hm
  have he := (r_wo_get (cA := cA) (ad := ad) (M := M) hs).trans (by rw [r_el_obj w9])
  have ht := fun w (h : w ∈ r_W) => hts w (List.mem_filter.mp h).1
  have cb := callB_of (R := room_1) (own := R_law) (index := idx) (y := mt'.1) (bytes := mt'.2.1) (maxL := mt'.2.2.1) (ret := mt'.2.2.2) (rm := r_room d' 0 0) n hts (lw_good w3) rfl rfl rfl (ht _ w2) (ht _ w1) w4 ⟨by show d' + 1 ≤ 2048; omega, by show 8 + (mt'.2.2.1 + 11) + 48 * d' ≤ 84000; omega⟩
  have kk2 := kk l D cA ad H.size
  rw [List.map_cons, hcv] at kk2
  exact va_runV (e := e) (below := below) (meth := meth) (rest := rest) (As := As) (g := F0 m pc ls (As.reverse ++ .ref (ad 0) :: rest)) (locs := locs) ⟨hx, hb, hml, hown, hts⟩ kk2 ⟨cb, ht _ w6, ht _ w7⟩
    ⟨r_pre_blind, va_recv hK hP w8 he, fun U hU hW => ⟨rfl, by rw [hU], by rw [hU]; exact hP, va_K.moved hW.alike hK, hD.weaken (fun _ _ _ _ => trivial), r_gr_f hg0, by rw [hU]; exact r_St.warm hW ((hZ.kept hS.2.1).narrow (r_fre hD hS (fun _ h => h)))⟩⟩
    rfl hn hls rfl (lv_room hw) hd hf
theorem Rl_callX {d' idx n N : Nat} {mt' : Mt} {As rest : List Value} (C : lw_Ctx p s m meth c b L xs D cA adX adY) (hd : decode cL_law pc = .ok (.invokevirtual idx, 3)) (hm : r_mv RL idx mt' n 11 N) (hs : shX[0]? = some (11, N)) (hdd : d' ≤ 1000) (hn : As.length = n) (hcv : As.map (r_cv adX) = As) (hst : st = As.reverse ++ .ref (adX 0) :: rest) (hw : (rest.map fun v => v.category).sum ≤ 8) (hf : cells ≤ 600000 ∧ slots ≤ 7302250)
    (kk : Ca d' mt' 0 0 (.ref 0 :: As) GX Mx (fun r G' M' => G' = GX ∧ ∃ v, r = some v ∧ (∀ ad, r_cv ad v = v) ∧ Rl p l e s m below meth c b D cA adX adY cells slots (pc + 3) i (v :: rest) M' My)) : Rl p l e s m below meth c b D cA adX adY cells slots pc i st Mx My := by
  subst hst
  intro H locs ls hPX hPY hS hl T hT X
  have hDX : va_D (fun q => s.heap.size ≤ q) (r_wo GX cA adX Mx) := r_DofA C.2.2.2.1 C.2.2.2.2.2.1
  have hDY : va_D (fun q => s.heap.size ≤ q) (r_wo GY cA adY My) := r_DofA C.2.2.2.2.1 C.2.2.2.2.2.2.1
  have hrun := lw_run (l := l) (e := e) (below := below) (ls := ls) (G := GX) (ad := adX) (rest := rest) C.1 C.2.2.1 rfl hS hPX hDX C.2.2.2.2.2.2.2.2.1 hl.1 hd hm hs hdd hn hcv hw hf kk
  obtain ⟨v, st₀, t, T', Lx, h0, X', hLx, e1, e2, ⟨⟨r, G', M', hv, hq, hP1, hK1, hD1, hg1⟩, hz, hk⟩, st1⟩ := hrun T hT X
  obtain ⟨hG', v2, hr2, hcv2, hq⟩ := hq
  subst hG' hr2
  have hv2 : v = some v2 := (Outcome.returned.inj hv).trans (by simp [hcv2])
  subst hv2
  rw [h0] at hz hk
  have hfree := r_fre hDX hS (fun _ h => h)
  have hS1 : va_S (fun q => s.heap.size ≤ q) s.heap T'.heap (locs ++ Lx) := by
    refine ⟨Nat.le_trans hS.1 (by rw [e1]; exact hz), fun q g1 g2 => ?_, fun q hq => ?_⟩
    · rw [e1, hk q (Nat.lt_of_lt_of_le g1 hS.1) (fun z => g2 (hfree q z))]
      exact hS.2.1 q g1 g2
    · rcases List.mem_append.mp hq with h | h
      · exact hS.2.2 q h
      · exact hfree _ (hLx q h)
  have hPo : va_P D vwCl (r_wo GY cA adY My) T'.heap := by
    rw [e1]
    exact lw_other hPY C.2.2.2.2.2.2.2.1 hk
  have hPn : va_P D vwCl (r_wo GX cA adX M') T'.heap := by
    rw [e1]
    exact hP1
  obtain ⟨t2, a1, b1⟩ := hq T'.heap (locs ++ Lx) ls hPn hPo hS1 hl T' rfl X'
  exact ⟨t2, st1 t2 a1, b1⟩
theorem Rl_callY {d' idx n N : Nat} {mt' : Mt} {As rest : List Value} (C : lw_Ctx p s m meth c b L xs D cA adX adY) (hd : decode cL_law pc = .ok (.invokevirtual idx, 3)) (hm : r_mv RL idx mt' n 12 N) (hs : shY[0]? = some (12, N)) (hdd : d' ≤ 1000) (hn : As.length = n) (hcv : As.map (r_cv adY) = As) (hst : st = As.reverse ++ .ref (adY 0) :: rest) (hw : (rest.map fun v => v.category).sum ≤ 8) (hf : cells ≤ 600000 ∧ slots ≤ 7302250)
    (kk : Ca d' mt' 0 0 (.ref 0 :: As) GY My (fun r G' M' => G' = GY ∧ ∃ v, r = some v ∧ (∀ ad, r_cv ad v = v) ∧ Rl p l e s m below meth c b D cA adX adY cells slots (pc + 3) i (v :: rest) Mx M')) : Rl p l e s m below meth c b D cA adX adY cells slots pc i st Mx My := by
  subst hst
  intro H locs ls hPX hPY hS hl T hT X
  have hDX : va_D (fun q => s.heap.size ≤ q) (r_wo GX cA adX Mx) := r_DofA C.2.2.2.1 C.2.2.2.2.2.1
  have hDY : va_D (fun q => s.heap.size ≤ q) (r_wo GY cA adY My) := r_DofA C.2.2.2.2.1 C.2.2.2.2.2.2.1
  have hrun := lw_run (l := l) (e := e) (below := below) (ls := ls) (G := GY) (ad := adY) (rest := rest) C.1 C.2.2.1 rfl hS hPY hDY C.2.2.2.2.2.2.2.2.2 hl.1 hd hm hs hdd hn hcv hw hf kk
  obtain ⟨v, st₀, t, T', Lx, h0, X', hLx, e1, e2, ⟨⟨r, G', M', hv, hq, hP1, hK1, hD1, hg1⟩, hz, hk⟩, st1⟩ := hrun T hT X
  obtain ⟨hG', v2, hr2, hcv2, hq⟩ := hq
  subst hG' hr2
  have hv2 : v = some v2 := (Outcome.returned.inj hv).trans (by simp [hcv2])
  subst hv2
  rw [h0] at hz hk
  have hfree := r_fre hDY hS (fun _ h => h)
  have hS1 : va_S (fun q => s.heap.size ≤ q) s.heap T'.heap (locs ++ Lx) := by
    refine ⟨Nat.le_trans hS.1 (by rw [e1]; exact hz), fun q g1 g2 => ?_, fun q hq => ?_⟩
    · rw [e1, hk q (Nat.lt_of_lt_of_le g1 hS.1) (fun z => g2 (hfree q z))]
      exact hS.2.1 q g1 g2
    · rcases List.mem_append.mp hq with h | h
      · exact hS.2.2 q h
      · exact hfree _ (hLx q h)
  have hPo : va_P D vwCl (r_wo GX cA adX Mx) T'.heap := by
    rw [e1]
    exact lw_other hPX (fun i j h1 h2 h3 => C.2.2.2.2.2.2.2.1 j i h2 h1 h3.symm) hk
  have hPn : va_P D vwCl (r_wo GY cA adY M') T'.heap := by
    rw [e1]
    exact hP1
  obtain ⟨t2, a1, b1⟩ := hq T'.heap (locs ++ Lx) ls hPo hPn hS1 hl T' rfl X'
  exact ⟨t2, st1 t2 a1, b1⟩
end RL2
