-- THE LAW's FIRST ROWS: the two objects are made
theorem r_wo_fr {sh : List (Nat × Nat)} {fr : Nat → Nat → Option Nat} {g1 g2 : Bool} {cA : Nat → ClassId} {ad : Nat → Nat} {M M' : Mem} (h : ∀ o, o < sh.length → M.1 o = M'.1 o ∧ M.2.1 o = M'.2.1 o ∧ (∀ k, M.2.2 o k = M'.2.2 o k)) (hf : ∀ o, o < sh.length → ∀ k, k < (sh.getD o (0, 0)).2 → fr o k = none ∨ M'.2.2 o k = fr o k) : r_wo (sh, (fun _ _ => none), g1) cA ad M = r_wo (sh, fr, g2) cA ad M' := by
  unfold r_wo
  apply List.map_congr_left
  intro o ho
  have hlt := List.mem_range.mp ho
  obtain ⟨e1, e2, e3⟩ := h o hlt
  have e3' : M.2.2 o = M'.2.2 o := funext e3
  have e5 : r_fs (sh, (fun _ _ => none), g1) ad M o (sh.getD o (0, 0)).1 (sh.getD o (0, 0)).2 = r_fs (sh, fr, g2) ad M' o (sh.getD o (0, 0)).1 (sh.getD o (0, 0)).2 := by
    unfold r_fs
    apply List.map_congr_left
    intro j hj
    have hj2 := List.mem_range.mp hj
    have e4 : r_rf (sh, (fun _ _ => none), g1) M o j = r_rf (sh, fr, g2) M' o j := by
      unfold r_rf
      show M.2.2 o j = match fr o j with
        | some r => some r
        | none => M'.2.2 o j
      rw [e3 j]
      rcases hf o hlt j hj2 with h0 | h0
      · rw [h0]
      · rw [h0]
        cases fr o j <;> rfl
    unfold r_fv
    rw [e1, e2, e4]
  show (ad o, r_el (sh, (fun _ _ => none), g1) cA ad M o (sh.getD o (0, 0))) = (ad o, r_el (sh, fr, g2) cA ad M' o (sh.getD o (0, 0)))
  congr 1
  unfold r_el
  rw [e5, e1, e2, e3']
theorem r_ov_0 (T M : Mem) (o : Nat) : (r_ov 0 T M).1 o = T.1 o ∧ (r_ov 0 T M).2.1 o = T.2.1 o ∧ ∀ k, (r_ov 0 T M).2.2 o k = T.2.2 o k := by
  refine ⟨by simp [r_ov], by simp [r_ov], fun k => ?_⟩
  simp [r_ov]
theorem sc_X11_eq : sc_X11 = shX := by decide +kernel
theorem sc_X12_eq : sc_X12 = shY := by decide +kernel
theorem fr_X11 : ∀ o, o < 195 → ∀ k, k < 21 → frX o k = none ∨ tc_X11.2.2 o k = frX o k := by decide +kernel
theorem fr_X12 : ∀ o, o < 22 → ∀ k, k < 60 → frY o k = none ∨ tc_X12.2.2 o k = frY o k := by decide +kernel
theorem shX_lt : ∀ o, o < 195 → (shX.getD o (0, 0)).1 < 100 → (shX.getD o (0, 0)).2 ≤ 21 := by decide +kernel
theorem offX_arr {ci k : Nat} (h : 100 ≤ ci) : offX ci k = none := by
  unfold offX
  split <;> first | rfl | omega
theorem r_wo_X {cA : Nat → ClassId} {ad : Nat → Nat} {M : Mem} : r_wo (Wo [] sc_X11) cA ad (r_ov 0 tc_X11 M) = r_wo GX cA ad tc_X11 := by
  have e : Wo [] sc_X11 = (shX, (fun _ _ => none), true) := by rw [sc_X11_eq]; rfl
  rw [e]
  refine r_wo_fr (fun o _ => r_ov_0 tc_X11 M o) (fun o ho k hk => ?_)
  have ho2 : o < 195 := ho
  by_cases hc : (shX.getD o (0, 0)).1 < 100
  · exact fr_X11 o ho2 k (Nat.lt_of_lt_of_le hk (shX_lt o ho2 hc))
  · left
    obtain ⟨sh, hs⟩ : ∃ sh, shX[o]? = some sh := ⟨shX[o], List.getElem?_eq_getElem ho⟩
    have hg : shX.getD o (0, 0) = sh := by simp [List.getD, hs]
    rw [hg] at hc
    exact frX_none (ci := sh.1) (N := sh.2) hs (offX_arr (by omega))
theorem frY_0 {o k : Nat} (h : o ≠ 0) : frY o k = none := by
  unfold frY
  rw [if_neg h]
theorem r_wo_Y {cA : Nat → ClassId} {ad : Nat → Nat} {M : Mem} : r_wo (Wo [] sc_X12) cA ad (r_ov 0 tc_X12 M) = r_wo GY cA ad tc_X12 := by
  have e : Wo [] sc_X12 = (shY, (fun _ _ => none), true) := by rw [sc_X12_eq]; rfl
  rw [e]
  refine r_wo_fr (fun o _ => r_ov_0 tc_X12 M o) (fun o ho k hk => ?_)
  have ho2 : o < 22 := ho
  by_cases hc : o = 0
  · subst hc
    exact fr_X12 0 ho2 k hk
  · left
    exact frY_0 hc
section LS
variable {p : Program} {l : Launch} {e : Env} {s : State} {m : MethodId} {below : List Frame} {meth : Method} {c : Code} {b L : Nat} {xs : Nat → Int32} {D : va_G} {cA : Nat → ClassId} {cells slots pc : Nat} {st : List Value} {H : Heap} {locs : List Loc} {ls : Array Slot} {Qs : State → Prop}
theorem lw_new {idx ci N : Nat} {C : String} {T : u_T} {ad : Nat → Nat} (C0 : lw_At p s m meth c b L xs) (hK : va_K D vwCl (r_tys cA) s) (hS : va_S (fun q => s.heap.size ≤ q) s.heap H locs) (hadr : ad 0 = H.size) (hd : decode cL_law pc = .ok (.new idx, 3)) (hcl : r_cl ci C T N) (hw1 : Cond.classLink R_law idx C ∈ r_W) (hw2 : Cond.instantiable C N ∈ r_W) (hw3 : Cond.initialized C ∈ r_W) (hok : ∀ j, j < N → r_okt (r_ty ci j) = true) (hf : cells + 1 ≤ 600000 ∧ slots + N ≤ 7302250)
    (kk : ∀ H1 : Heap, va_P D vwCl (r_wo (Wo [] [(ci, N)]) cA ad (r_ov 0 r_Z r_Z)) H1 → H1.size = H.size + 1 → (∀ q, q < H.size → H1[q]? = H[q]?) → va_S (fun q => s.heap.size ≤ q) s.heap H1 locs → W p l e room_1 s m #[Value.ref b] below meth c H1 locs (cells + 1) (slots + N) Qs (F0 m (pc + 3) ls (.ref (ad 0) :: st))) : W p l e room_1 s m #[Value.ref b] below meth c H locs cells slots Qs (F0 m pc ls st) := by
  obtain ⟨hx, hb, hr, hml, hown, hts, -⟩ := C0
  have ht := fun w (h : w ∈ r_W) => hts w (List.mem_filter.mp h).1
  have hin : ∀ w ∈ u_ws C T N, w ∈ lw_tbl := fun w h => (List.mem_filter.mp (hcl.2.1 w h)).1
  have hKn := hK.1 ci _ hcl.1
  refine W.newcK hx hb hown (ht _ hw1) (ht _ hw2) (ht _ hw3) rfl hd hf.1 hf.2 hKn.2.1 rfl fun H1 kC hkC e1 z1 o1 => ?_
  have hP1 : va_P D vwCl (r_wo (Wo [] [(ci, N)]) cA ad (r_ov 0 r_Z r_Z)) H1 := by
    intro k q hq
    have hwo : r_wo (Wo [] [(ci, N)]) cA ad (r_ov 0 r_Z r_Z) = [(ad 0, .inr (ci, r_fs (Wo [] [(ci, N)]) ad (r_ov 0 r_Z r_Z) 0 ci N))] := by
      show [(ad 0, r_el _ cA ad _ 0 (ci, N))] = _
      rw [r_el_obj hcl.2.2.2.2]
    rw [hwo] at hq
    have hz : k < 1 := (List.getElem?_eq_some_iff.mp hq).1
    rw [show k = 0 by omega] at hq
    cases hq
    refine ⟨_, hcl.1, t_OB.to (V := fun k => defaultValue (r_ty ci k)) ?_ (fun j hj => ?_)⟩
    · show t_OB (ad 0) _ _ _ H1 _
      rw [hadr]
      exact u_born (r_ty ci) hts hin hKn hkC e1 hcl.2.2.1
    · have hg2 := r_fs_get (G := Wo [] [(ci, N)]) (ad := ad) (M := r_ov 0 r_Z r_Z) (o := 0) (ci := ci) hj
      unfold vp_V
      rw [List.getD, hg2]
      have h0 := hok j hj
      have hrf : r_rf (Wo [] [(ci, N)]) (r_ov 0 r_Z r_Z) 0 j = none := rfl
      have hi0 : (r_ov 0 r_Z r_Z).1 0 j = 0 := rfl
      have hj0 : (r_ov 0 r_Z r_Z).2.1 0 j = 0 := rfl
      cases ht2 : r_ty ci j <;> rw [ht2] at h0 <;> first | (cases h0; done) | (simp only [r_fv, hrf]; rfl) | (simp only [r_fv, hi0]; rfl) | (simp only [r_fv, hj0]; rfl)
  have hcv : (Value.ref H.size) = .ref (ad 0) := by rw [hadr]
  rw [hcv]
  exact kk H1 hP1 z1 o1 ⟨Nat.le_trans hS.1 (by omega), fun x h1 h2 => (o1 x (Nat.lt_of_lt_of_le h1 hS.1)).trans (hS.2.1 x h1 h2), hS.2.2⟩
theorem lw_ctor {d' mc ms idx ci N : Nat} {mt' : Mt} {ad : Nat → Nat} {sc : List (Nat × Nat)} {tc : Mem} (C0 : lw_At p s m meth c b L xs) (hK : va_K D vwCl (r_tys cA) s) (hS : va_S (fun q => s.heap.size ≤ q) s.heap H locs) (hls : ls.size = 4) (hP : va_P D vwCl (r_wo (Wo [] [(ci, N)]) cA ad (r_ov 0 r_Z r_Z)) H) (hci : ci < 100) (hnew : s.heap.size ≤ ad 0) (hgr : ∀ j, 1 + j < 1000 → ad (1 + j) = H.size + j) (hZ : r_St ad (fun q => s.heap.size ≤ q) s s.heap)
    (hd : decode cL_law pc = .ok (.invokespecial idx, 3)) (hm : r_mc R_law idx mt' 0) (hi1 : mt'.1.name = "<init>") (hi2 : Cond.instanceMethod mt'.1 ∈ r_W) (hret : mt'.2.2.2 = none) (hdd : d' ≤ 1000) (hw : (st.map fun v => v.category).sum ≤ 8) (hf : cells + mc ≤ 600000 ∧ slots + ms ≤ 7302250)
    (hc : ∀ (Q : Rq), Q none (Wo [] sc) (r_ov 0 tc r_Z) → Ca d' mt' mc ms [.ref 0] (Wo [] [(ci, N)]) (r_ov 0 r_Z r_Z) Q)
    (hlen : sc.length < 1000)
    (kk : ∀ (H1 : Heap) (locs1 : List Loc), va_P D vwCl (r_wo (Wo [] sc) cA ad (r_ov 0 tc r_Z)) H1 → ad sc.length = H1.size → H.size ≤ H1.size → (∀ q, q < H.size → q ≠ ad 0 → H1[q]? = H[q]?) → va_S (fun q => s.heap.size ≤ q) s.heap H1 locs1 → W p l e room_1 s m #[Value.ref b] below meth c H1 locs1 (cells + mc) (slots + ms) Qs (F0 m (pc + 3) ls st)) : W p l e room_1 s m #[Value.ref b] below meth c H locs cells slots Qs (F0 m pc ls (.ref (ad 0) :: st)) := by
  obtain ⟨hx, hb, hr, hml, hown, hts, -⟩ := C0
  obtain ⟨w1, w2, w3, w4, w5⟩ := hm
  have ht := fun w (h : w ∈ r_W) => hts w (List.mem_filter.mp h).1
  have cb := callB_of (R := room_1) (own := R_law) (index := idx) (y := mt'.1) (bytes := mt'.2.1) (maxL := mt'.2.2.1) (ret := mt'.2.2.2) (rm := r_room d' mc ms) 0 hts (lw_good w3) rfl rfl rfl (ht _ w2) (ht _ w1) w4 ⟨by show d' + 1 ≤ 2048; omega, by show 8 + (mt'.2.2.1 + 11) + 48 * d' ≤ 84000; omega⟩
  rw [hret] at cb
  have hD : va_D (fun q => s.heap.size ≤ q) (r_wo (Wo [] [(ci, N)]) cA ad (r_ov 0 r_Z r_Z)) := by
    refine r_DofA (fun i j hi hj _ => ?_) (fun i hi => ?_)
    · have h1 : i < 1 := hi
      have h2 : j < 1 := hj
      omega
    · have h1 : i < 1 := hi
      rw [show i = 0 by omega]
      exact hnew
  have hrun := va_runI (e := e) (below := below) (meth := meth) (rest := st) (As := []) (g := F0 m pc ls (.ref (ad 0) :: st)) (locs := locs) ⟨hx, hb, hml, hown, hts⟩ (hc (fun r G M => r = none ∧ G = Wo [] sc ∧ M = r_ov 0 tc r_Z) ⟨rfl, rfl, rfl⟩ l D cA ad H.size) ⟨cb, hi1, ht _ hi2⟩
    ⟨r_pre_blind, fun U hU hW => ⟨rfl, by rw [hU], by rw [hU]; exact hP, va_K.moved hW.alike hK, hD.weaken (fun _ _ _ _ => trivial), fun _ j hj => hgr j hj, by rw [hU]; exact r_St.warm hW ((hZ.kept hS.2.1).narrow (r_fre hD hS (fun _ h => h)))⟩⟩
    rfl rfl hls rfl (lv_room hw) hd hf
  have hfree := r_fre hD hS (fun _ h => h)
  intro T hT X
  obtain ⟨v, st₀, t, T', Lx, h0, X', hLx, e1, e2, ⟨⟨r, G', M', hv, ⟨rfl, rfl, rfl⟩, hP1, hK1, hD1, hg1⟩, hz, hk⟩, st1⟩ := hrun T hT X
  have hv2 : v = none := Outcome.returned.inj hv
  subst hv2
  rw [h0] at hz hk
  have hsz : ad sc.length = T'.heap.size := by
    have := hg1 rfl 0 (by show (Wo [] sc).1.length + 0 < 1000; simpa [Wo] using hlen)
    rw [e1]
    simpa [Wo] using this
  have hS1 : va_S (fun q => s.heap.size ≤ q) s.heap T'.heap (locs ++ Lx) := by
    refine ⟨Nat.le_trans hS.1 (by rw [e1]; exact hz), fun q g1 g2 => ?_, fun q hq => ?_⟩
    · rw [e1, hk q (Nat.lt_of_lt_of_le g1 hS.1) (fun z => g2 (hfree q z))]
      exact hS.2.1 q g1 g2
    · rcases List.mem_append.mp hq with h | h
      · exact hS.2.2 q h
      · exact hfree _ (hLx q h)
  obtain ⟨t2, a1, b1⟩ := kk T'.heap (locs ++ Lx) (by rw [e1]; exact hP1) hsz (by rw [e1]; exact hz) (fun q hq hne => by
    rw [e1]
    refine hk q hq fun z => ?_
    rcases z with ⟨k2, x2, z⟩ | z
    · have hl2 : k2 < 1 := by
        have := (List.getElem?_eq_some_iff.mp z).1
        simpa [r_wo, Wo] using this
      have h3 := r_wo_get (G := Wo [] [(ci, N)]) (cA := cA) (ad := ad) (M := r_ov 0 r_Z r_Z) (o := 0) (sh := (ci, N)) rfl
      rw [show k2 = 0 by omega, h3] at z
      have : ad 0 = q := by
        have := congrArg (fun o => o.map Prod.fst) z
        simpa using this
      exact hne this.symm
    · omega) hS1 T' rfl X'
  exact ⟨t2, st1 t2 a1, b1⟩
end LS
