theorem lw_keep {D : va_G} {cA : Nat → ClassId} {H H1 : Heap} {G : Wd} {ad : Nat → Nat} {M : Mem} (hP : va_P D vwCl (r_wo G cA ad M) H) (hk : ∀ k, k < G.1.length → H1[ad k]? = H[ad k]?) : va_P D vwCl (r_wo G cA ad M) H1 := by
  refine hP.kept fun k q h => ?_
  have hl : k < G.1.length := by
    have := (List.getElem?_eq_some_iff.mp h).1
    simpa [r_wo] using this
  obtain ⟨sh, hs⟩ : ∃ sh, G.1[k]? = some sh := ⟨G.1[k], List.getElem?_eq_getElem hl⟩
  have hq : q.1 = ad k := by
    have h2 := r_wo_get (cA := cA) (ad := ad) (M := M) hs
    rw [h2] at h
    cases h
    rfl
  rw [hq]
  exact hk k hl
theorem lw_nX : Cond.classLink R_law 7 RX11 ∈ r_W := r_W_of (by decide +kernel) (by decide +kernel)
theorem lw_nY : Cond.classLink R_law 10 RX12 ∈ r_W := r_W_of (by decide +kernel) (by decide +kernel)
theorem lw_zX : Cond.initialized RX11 ∈ r_W := r_W_of (by decide +kernel) (by decide +kernel)
theorem lw_zY : Cond.initialized RX12 ∈ r_W := r_W_of (by decide +kernel) (by decide +kernel)
theorem lw_mcX : r_mc R_law 9 mt_X11_init 0 := ⟨r_W_of (by decide +kernel) (by decide +kernel), mf_X11_init⟩
theorem lw_mcY : r_mc R_law 12 mt_X12_init 0 := ⟨r_W_of (by decide +kernel) (by decide +kernel), mf_X12_init⟩
theorem lw_miX : Cond.instanceMethod mt_X11_init.1 ∈ r_W := r_W_of (by decide +kernel) (by decide +kernel)
theorem lw_miY : Cond.instanceMethod mt_X12_init.1 ∈ r_W := r_W_of (by decide +kernel) (by decide +kernel)
theorem lw_okX : ∀ j, j < 14 → r_okt (r_ty 11 j) = true := by decide +kernel
theorem lw_okY : ∀ j, j < 60 → r_okt (r_ty 12 j) = true := by decide +kernel
theorem lw_sX : sc_X11.length = 195 := by decide +kernel
theorem lw_sY : sc_X12.length = 22 := by decide +kernel
theorem lw_gX : shX.length = 195 := by decide +kernel
theorem lw_gY : shY.length = 22 := by decide +kernel
theorem lw_full {ls : Array Slot} {n : Nat} {l l' : List (Nat × Value)} (h : lv_has ls n l) (hs : ∀ q ∈ l', q ∈ l) : lv_has ls n l' := ⟨h.1, h.2.1, fun q hq => h.2.2 q (hs q hq)⟩
theorem lw_whole {Sg : Type} {RX RY : Mem → Sg → Prop} {F : Nat → (Nat → Int32) → Sg → Value × Sg} {hx hy : Nat → Nat} (σ0 : Sg) (rx : RX tc_X11 σ0) (ry : RY tc_X12 σ0) (hX : ∀ k, k < 44 → ∀ a, r_api RX GX (hx k) (lw_mX k) (lw_av k a) (F k a)) (hY : ∀ k, k < 44 → ∀ a, r_api RY GY (hy k) (lw_mY k) (lw_av k a) (F k a)) (hhX : ∀ k, hx k ≤ 1000) (hhY : ∀ k, hy k ≤ 1000) (hF : ∀ k a σ, lw_isV k (F k a σ).1)
    {p : Program} {e : Env} {s : State} {m : MethodId} {below : List Frame} {meth : Method} {c : Code} (l : Launch) {b L : Nat} {xs : Nat → Int32} (hL : L ≤ 3072) (C0 : lw_At p s m meth c b L xs) : W p l e room_1 s m #[Value.ref b] below meth c s.heap [] 0 0 (lw_Z below #[Value.ref b] s) (entryFrame m ([Value.ref b] : List Value).toArray 4) := by
  have hts := C0.2.2.2.2.2.1
  have hx0 := C0.1
  have hb0 : c.code = cL_law := C0.2.1
  obtain ⟨D, cA, hK⟩ := lw_known hts
  obtain ⟨adK, adV, z, hZ⟩ := lw_strs hts C0.2.2.2.2.2.2.2.2.2
  have hle := lv_entry [Value.ref b] (n := 4) (Nat.le_of_ble_eq_true rfl)
  rw [lg_entry_eq]
  have loX : ∀ i, i < 1000 → lw_ad s.heap.size adK adV z i = s.heap.size + i := fun i hi => lw_ad_lo hi
  have loY : ∀ i, i < 1000 → lw_ad (s.heap.size + 195) adK adV z i = s.heap.size + 195 + i := fun i hi => lw_ad_lo hi
  have ZX := hZ s.heap.size
  have ZY := hZ (s.heap.size + 195)
  generalize lw_ad s.heap.size adK adV z = adX at *
  generalize lw_ad (s.heap.size + 195) adK adV z = adY at *
  have hS0 : va_S (fun q => s.heap.size ≤ q) s.heap s.heap [] := ⟨Nat.le_refl _, fun q _ _ => rfl, fun q hq => by cases hq⟩
  refine lw_new (idx := 7) (ci := 11) (N := 14) (pc := 0) (ad := adX) C0 hK hS0 (by rw [loX 0 (by omega)]; rfl) dL_law_0 rc_11 lw_nX lw_i11 lw_zX lw_okX (by omega) fun H1 hP1 z1 o1 hS1 => ?_
  refine lv_dup hx0 hb0 dL_law_3 rfl ?_
  refine lw_ctor (d' := 5) (mc := 194) (ms := 21733) (ci := 11) (N := 14) (sc := sc_X11) (tc := tc_X11) C0 hK hS1 hle.1 hP1 (by omega) (by rw [loX 0 (by omega)]; exact Nat.le_refl _) (fun j hj => by rw [loX _ hj, z1]; omega) ZX dL_law_4 lw_mcX rfl lw_miX rfl (by omega) (Nat.le_of_ble_eq_true rfl) (by omega) (fun Q k => ci_X11 (l := []) (by simp) k) (by rw [lw_sX]; omega) fun H2 locs2 hP2 z2 ge2 o2 hS2 => ?_
  rw [lw_sX, loX 195 (by omega)] at z2
  have hPX : va_P D vwCl (r_wo GX cA adX tc_X11) H2 := by
    have h := hP2
    rw [r_wo_X] at h
    exact h
  refine lv_astore_n (nL := 4) (k := 1) (lv' := [(1, .ref (adX 0)), (0, .ref b)]) hx0 hb0 dL_law_7 rfl hle (by omega) rfl fun ls1 hl1 => ?_
  refine lw_new (idx := 10) (ci := 12) (N := 60) (pc := 8) (ad := adY) C0 hK hS2 (by rw [loY 0 (by omega)]; omega) dL_law_8 rc_12 lw_nY lw_i12 lw_zY lw_okY (by omega) fun H3 hP3 z3 o3 hS3 => ?_
  refine lv_dup hx0 hb0 dL_law_11 rfl ?_
  refine lw_ctor (d' := 1) (mc := 21) (ms := 12201) (ci := 12) (N := 60) (sc := sc_X12) (tc := tc_X12) C0 hK hS3 hl1.1 hP3 (by omega) (by rw [loY 0 (by omega)]; omega) (fun j hj => by rw [loY _ hj, z3]; omega) ZY dL_law_12 lw_mcY rfl lw_miY rfl (by omega) (Nat.le_of_ble_eq_true rfl) (by omega) (fun Q k => ci_X12 (l := []) (by simp) k) (by rw [lw_sY]; omega) fun H4 locs4 hP4 z4 ge4 o4 hS4 => ?_
  have hPY : va_P D vwCl (r_wo GY cA adY tc_X12) H4 := by
    have h := hP4
    rw [r_wo_Y] at h
    exact h
  have hPX4 : va_P D vwCl (r_wo GX cA adX tc_X11) H4 := by
    refine lw_keep hPX fun k hk => ?_
    have hk2 : k < 195 := by
      rw [← lw_gX]
      exact hk
    have hlt : adX k < H2.size := lw_at_lt hPX hk
    have e1 := o3 (adX k) hlt
    have e2 := o4 (adX k) (by omega) (by rw [loX k (by omega), loY 0 (by omega)]; omega)
    rw [e2, e1]
  refine lv_astore_n (nL := 4) (k := 2) (lv' := [(2, .ref (adY 0)), (1, .ref (adX 0)), (0, .ref b)]) hx0 hb0 dL_law_15 rfl hl1 (by omega) rfl fun ls2 hl2 => ?_
  refine lv_iconst (v := nI 0) hx0 hb0 dL_law_16 rfl ?_
  refine lv_istore_n (nL := 4) (k := 3) (x := nI 0) (lv' := [(3, .int (nI 0)), (2, .ref (adY 0)), (1, .ref (adX 0)), (0, .ref b)]) hx0 hb0 dL_law_17 rfl hl2 (by omega) rfl fun ls3 hl3 => ?_
  have C : lw_Ctx p s m meth c b L xs D cA adX adY := by
    refine ⟨C0, hL, hK, fun i j hi hj e9 => ?_, fun i j hi hj e9 => ?_, fun i hi => ?_, fun i hi => ?_, fun i j hi hj => ?_, ZX, ZY⟩
    · rw [lw_gX] at hi hj
      rw [loX i (by omega), loX j (by omega)] at e9
      omega
    · rw [lw_gY] at hi hj
      rw [loY i (by omega), loY j (by omega)] at e9
      omega
    · rw [lw_gX] at hi
      rw [loX i (by omega)]
      omega
    · rw [lw_gY] at hi
      rw [loY i (by omega)]
      omega
    · rw [lw_gX] at hi
      rw [lw_gY] at hj
      rw [loX i (by omega), loY j (by omega)]
      omega
  exact lw_loop C (by omega) hX hY hhX hhY hF (L + 6) 0 σ0 tc_X11 tc_X12 (by omega) rx ry (by omega) H4 locs4 ls3 hPX4 hPY hS4 (lw_full hl3 (fun q hq => by
    simp only [List.mem_cons, List.not_mem_nil, or_false] at hq ⊢
    rcases hq with h | h | h | h <;> simp [h]))
