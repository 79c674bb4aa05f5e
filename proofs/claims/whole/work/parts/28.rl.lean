-- THE LAW's BODY over two worlds
theorem r_DofA {G : Wd} {cA : Nat → ClassId} {ad : Nat → Nat} {M : Mem} {A : Nat → Prop} (hi : ∀ i j, i < G.1.length → j < G.1.length → ad i = ad j → i = j) (hA : ∀ i, i < G.1.length → A (ad i)) : va_D A (r_wo G cA ad M) := by
  have key : ∀ (k : Nat) (q : Nat × va_E), (r_wo G cA ad M)[k]? = some q → k < G.1.length ∧ q.1 = ad k := by
    intro k q h
    have hl : k < G.1.length := by
      have := (List.getElem?_eq_some_iff.mp h).1
      simpa [r_wo] using this
    obtain ⟨sh, hs⟩ : ∃ sh, G.1[k]? = some sh := ⟨G.1[k], List.getElem?_eq_getElem hl⟩
    have h2 := r_wo_get (cA := cA) (ad := ad) (M := M) hs
    rw [h2] at h
    cases h
    exact ⟨hl, rfl⟩
  refine ⟨fun i j p q h1 h2 h3 => ?_, fun k q h => ?_⟩
  · obtain ⟨a1, a2⟩ := key i p h1
    obtain ⟨b1, b2⟩ := key j q h2
    exact hi i j a1 b1 (a2.symm.trans (h3.trans b2))
  · obtain ⟨a1, a2⟩ := key k q h
    rw [a2]
    exact hA k a1
def lw_Ctx (p : Program) (s : State) (m : MethodId) (meth : Method) (c : Code) (b L : Nat) (xs : Nat → Int32) (D : va_G) (cA : Nat → ClassId) (adX adY : Nat → Nat) : Prop :=
  lw_At p s m meth c b L xs ∧ L ≤ 3072 ∧ va_K D vwCl (r_tys cA) s ∧ (∀ i j, i < shX.length → j < shX.length → adX i = adX j → i = j) ∧ (∀ i j, i < shY.length → j < shY.length → adY i = adY j → i = j) ∧ (∀ i, i < shX.length → s.heap.size ≤ adX i) ∧ (∀ i, i < shY.length → s.heap.size ≤ adY i) ∧ (∀ i j, i < shX.length → j < shY.length → adX i ≠ adY j) ∧ r_St adX (fun q => s.heap.size ≤ q) s s.heap ∧ r_St adY (fun q => s.heap.size ≤ q) s s.heap
def Rl (p : Program) (l : Launch) (e : Env) (s : State) (m : MethodId) (below : List Frame) (meth : Method) (c : Code) (b : Nat) (D : va_G) (cA : Nat → ClassId) (adX adY : Nat → Nat) (cells slots : Nat) (pc : Nat) (i : Int32) (st : List Value) (Mx My : Mem) : Prop :=
  ∀ (H : Heap) (locs : List Loc) (ls : Array Slot), va_P D vwCl (r_wo GX cA adX Mx) H → va_P D vwCl (r_wo GY cA adY My) H → va_S (fun q => s.heap.size ≤ q) s.heap H locs → lv_has ls 4 [(3, .int i), (0, .ref b), (1, .ref (adX 0)), (2, .ref (adY 0))] →
    W p l e room_1 s m #[Value.ref b] below meth c H locs cells slots (lw_Z below #[Value.ref b] s) (F0 m pc ls st)
section RL
variable {p : Program} {l : Launch} {e : Env} {s : State} {m : MethodId} {below : List Frame} {meth : Method} {c : Code} {b L : Nat} {xs : Nat → Int32} {D : va_G} {cA : Nat → ClassId} {adX adY : Nat → Nat} {cells slots pc j : Nat} {st : List Value} {Mx My : Mem} {i : Int32}
theorem Rl_pure {pc' : Nat} {st' : List Value} (C : lw_Ctx p s m meth c b L xs D cA adX adY) (kk : Rl p l e s m below meth c b D cA adX adY cells slots pc' i st' Mx My)
    (h : ∀ (H : Heap) (locs : List Loc) (ls : Array Slot), p.tables.exec = Jvm.exec → c.code = cL_law → s.vm.findClass R_law = some m.cls → lv_has ls 4 [(3, .int i), (0, .ref b), (1, .ref (adX 0)), (2, .ref (adY 0))] → va_S (fun q => s.heap.size ≤ q) s.heap H locs → W p l e room_1 s m #[Value.ref b] below meth c H locs cells slots (lw_Z below #[Value.ref b] s) (F0 m pc' ls st') → W p l e room_1 s m #[Value.ref b] below meth c H locs cells slots (lw_Z below #[Value.ref b] s) (F0 m pc ls st)) : Rl p l e s m below meth c b D cA adX adY cells slots pc i st Mx My :=
  fun H locs ls h1 h2 h3 h4 => h H locs ls C.1.1 C.1.2.1 C.1.2.2.2.2.1 h4 h3 (kk H locs ls h1 h2 h3 h4)
theorem Rl_x (C : lw_Ctx p s m meth c b L xs D cA adX adY) (hd : decode cL_law pc = .ok (.aload_n 1, 1)) (kk : Rl p l e s m below meth c b D cA adX adY cells slots (pc + 1) i (.ref (adX 0) :: st) Mx My) : Rl p l e s m below meth c b D cA adX adY cells slots pc i st Mx My :=
  Rl_pure C kk fun H locs ls hx hb ho hl hS k => lv_aload_n hx hb hd rfl (lv_at hl 2 rfl) k
theorem Rl_m (C : lw_Ctx p s m meth c b L xs D cA adX adY) (hd : decode cL_law pc = .ok (.aload_n 2, 1)) (kk : Rl p l e s m below meth c b D cA adX adY cells slots (pc + 1) i (.ref (adY 0) :: st) Mx My) : Rl p l e s m below meth c b D cA adX adY cells slots pc i st Mx My :=
  Rl_pure C kk fun H locs ls hx hb ho hl hS k => lv_aload_n hx hb hd rfl (lv_at hl 3 rfl) k
theorem Rl_arg {kn : Int} (kk : Nat) (C : lw_Ctx p s m meth c b L xs D cA adX adY) (d0 : decode cL_law pc = .ok (.aload_n 0, 1)) (d1 : decode cL_law (pc + 1) = .ok (.iload_n 3, 1)) (d2 : decode cL_law (pc + 2) = .ok (.iconst kn, 1)) (d3 : decode cL_law (pc + 3) = .ok (.iadd, 1)) (d4 : decode cL_law (pc + 4) = .ok (.iaload, 1)) (hk : Int32.ofInt kn = nI kk) (hj : j + kk < L) (k9 : Rl p l e s m below meth c b D cA adX adY cells slots (pc + 5) (nI j) (.int (xs (j + kk)) :: st) Mx My) : Rl p l e s m below meth c b D cA adX adY cells slots pc (nI j) st Mx My := by
  have hL := C.2.1
  refine Rl_pure C k9 fun H locs ls hx hb ho hl hS k => ?_
  refine lv_aload_n hx hb d0 rfl (lv_at hl 1 rfl) ?_
  refine lv_iload_n hx hb d1 rfl (lv_at hl 0 rfl) ?_
  refine lv_iconst hx hb d2 hk ?_
  refine lv_iadd hx hb d3 ?_
  rw [nI_add]
  have hin : vp_in (nI (j + kk)) L := vp_in_nI hj (by omega)
  refine va_sld hx hb C.1.2.2.2.2.2.2.1 C.1.2.2.2.2.2.2.2.1 (Nat.not_le.mpr C.1.2.2.2.2.2.2.2.1) hS hin d4 ?_
  rw [nI_clamp (show j + kk < 2 ^ 31 by omega)]
  exact k
theorem Rl_arg0 (C : lw_Ctx p s m meth c b L xs D cA adX adY) (d0 : decode cL_law pc = .ok (.aload_n 0, 1)) (d1 : decode cL_law (pc + 1) = .ok (.iload_n 3, 1)) (d4 : decode cL_law (pc + 2) = .ok (.iaload, 1)) (hj : j < L) (k9 : Rl p l e s m below meth c b D cA adX adY cells slots (pc + 3) (nI j) (.int (xs j) :: st) Mx My) : Rl p l e s m below meth c b D cA adX adY cells slots pc (nI j) st Mx My := by
  have hL := C.2.1
  refine Rl_pure C k9 fun H locs ls hx hb ho hl hS k => ?_
  refine lv_aload_n hx hb d0 rfl (lv_at hl 1 rfl) ?_
  refine lv_iload_n hx hb d1 rfl (lv_at hl 0 rfl) ?_
  have hin : vp_in (nI j) L := vp_in_nI hj (by omega)
  refine va_sld hx hb C.1.2.2.2.2.2.2.1 C.1.2.2.2.2.2.2.2.1 (Nat.not_le.mpr C.1.2.2.2.2.2.2.2.1) hS hin d4 ?_
  rw [nI_clamp (show j < 2 ^ 31 by omega)]
  exact k
theorem Rl_i2l {x : Int32} (C : lw_Ctx p s m meth c b L xs D cA adX adY) (hd : decode cL_law pc = .ok (.i2l, 1)) (kk : Rl p l e s m below meth c b D cA adX adY cells slots (pc + 1) i (.long x.toInt64 :: st) Mx My) : Rl p l e s m below meth c b D cA adX adY cells slots pc i (.int x :: st) Mx My :=
  Rl_pure C kk fun H locs ls hx hb ho hl hS k => lv_i2l hx hb hd rfl k
theorem Rl_bipush {n : Int} (v : Int32) (C : lw_Ctx p s m meth c b L xs D cA adX adY) (hd : decode cL_law pc = .ok (.bipush n, 2)) (hv : (Int8.ofInt n).toInt32 = v) (kk : Rl p l e s m below meth c b D cA adX adY cells slots (pc + 2) i (.int v :: st) Mx My) : Rl p l e s m below meth c b D cA adX adY cells slots pc i st Mx My :=
  Rl_pure C kk fun H locs ls hx hb ho hl hS k => lv_bipush hx hb hd hv k
theorem Rl_iconst {n : Int} (v : Int32) (C : lw_Ctx p s m meth c b L xs D cA adX adY) (hd : decode cL_law pc = .ok (.iconst n, 1)) (hv : Int32.ofInt n = v) (kk : Rl p l e s m below meth c b D cA adX adY cells slots (pc + 1) i (.int v :: st) Mx My) : Rl p l e s m below meth c b D cA adX adY cells slots pc i st Mx My :=
  Rl_pure C kk fun H locs ls hx hb ho hl hS k => lv_iconst hx hb hd hv k
theorem Rl_lshl {x : Int64} {y : Int32} (C : lw_Ctx p s m meth c b L xs D cA adX adY) (hd : decode cL_law pc = .ok (.lshl, 1)) (kk : Rl p l e s m below meth c b D cA adX adY cells slots (pc + 1) i (.long (x <<< (y.toInt64 &&& 63)) :: st) Mx My) : Rl p l e s m below meth c b D cA adX adY cells slots pc i (.int y :: .long x :: st) Mx My :=
  Rl_pure C kk fun H locs ls hx hb ho hl hS k => lv_lshl hx hb hd rfl k
theorem Rl_land {x y : Int64} (C : lw_Ctx p s m meth c b L xs D cA adX adY) (hd : decode cL_law pc = .ok (.land, 1)) (kk : Rl p l e s m below meth c b D cA adX adY cells slots (pc + 1) i (.long (x &&& y) :: st) Mx My) : Rl p l e s m below meth c b D cA adX adY cells slots pc i (.long y :: .long x :: st) Mx My :=
  Rl_pure C kk fun H locs ls hx hb ho hl hS k => lv_land hx hb hd k
theorem Rl_lor {x y : Int64} (C : lw_Ctx p s m meth c b L xs D cA adX adY) (hd : decode cL_law pc = .ok (.lor, 1)) (kk : Rl p l e s m below meth c b D cA adX adY cells slots (pc + 1) i (.long (x ||| y) :: st) Mx My) : Rl p l e s m below meth c b D cA adX adY cells slots pc i (.long y :: .long x :: st) Mx My :=
  Rl_pure C kk fun H locs ls hx hb ho hl hS k => lv_lor hx hb hd k
theorem Rl_iand {x y : Int32} (C : lw_Ctx p s m meth c b L xs D cA adX adY) (hd : decode cL_law pc = .ok (.iand, 1)) (kk : Rl p l e s m below meth c b D cA adX adY cells slots (pc + 1) i (.int (x &&& y) :: st) Mx My) : Rl p l e s m below meth c b D cA adX adY cells slots pc i (.int y :: .int x :: st) Mx My :=
  Rl_pure C kk fun H locs ls hx hb ho hl hS k => lv_iand hx hb hd k
theorem Rl_ldc2 {idx : Nat} {v : Int64} (C : lw_Ctx p s m meth c b L xs D cA adX adY) (hd : decode cL_law pc = .ok (.ldc2_w idx, 3)) (hw : Cond.constantLong R_law idx v ∈ r_W) (kk : Rl p l e s m below meth c b D cA adX adY cells slots (pc + 3) i (.long v :: st) Mx My) : Rl p l e s m below meth c b D cA adX adY cells slots pc i st Mx My :=
  Rl_pure C kk fun H locs ls hx hb ho hl hS k => lv_ldc2 hx hb ho (C.1.2.2.2.2.2.1 _ (List.mem_filter.mp hw).1) hd k
theorem Rl_goto {off : Int} (tgt : Nat) (C : lw_Ctx p s m meth c b L xs D cA adX adY) (hd : decode cL_law pc = .ok (.goto off, 3)) (ht : (pc : Int) + off = (tgt : Int)) (kk : Rl p l e s m below meth c b D cA adX adY cells slots tgt i st Mx My) : Rl p l e s m below meth c b D cA adX adY cells slots pc i st Mx My :=
  Rl_pure C kk fun H locs ls hx hb ho hl hS k => lv_goto hx hb hd ht k
/-- the two answers are the same: on -/
theorem Rl_same {x : Int32} {off : Int} (tgt : Nat) (C : lw_Ctx p s m meth c b L xs D cA adX adY) (hd : decode cL_law pc = .ok (.if_icmp .eq off, 3)) (ht : (pc : Int) + off = (tgt : Int)) (kk : Rl p l e s m below meth c b D cA adX adY cells slots tgt i st Mx My) : Rl p l e s m below meth c b D cA adX adY cells slots pc i (.int x :: .int x :: st) Mx My :=
  Rl_pure C kk fun H locs ls hx hb ho hl hS k => lv_icmp_eq hx hb hd ht (fun _ => k) (fun h => absurd rfl h)
theorem Rl_sameL {x : Int64} {off : Int} (tgt : Nat) (C : lw_Ctx p s m meth c b L xs D cA adX adY) (hd : decode cL_law pc = .ok (.lcmp, 1)) (hd2 : decode cL_law (pc + 1) = .ok (.ifCond .eq off, 3)) (ht : ((pc + 1 : Nat) : Int) + off = (tgt : Int)) (kk : Rl p l e s m below meth c b D cA adX adY cells slots tgt i st Mx My) : Rl p l e s m below meth c b D cA adX adY cells slots pc i (.long x :: .long x :: st) Mx My :=
  Rl_pure C kk fun H locs ls hx hb ho hl hS k => W.lcmp hx hb hd (lv_if_eq hx hb hd2 ht (fun _ => k) (fun h => absurd ((lg_cmp_eq x x).mpr rfl) h))
theorem Rl_iinc {n : Int} {v : Int32} (C : lw_Ctx p s m meth c b L xs D cA adX adY) (hd : decode cL_law pc = .ok (.iinc 3 n, 3)) (hv : i + Int32.ofInt n = v) (kk : Rl p l e s m below meth c b D cA adX adY cells slots (pc + 3) v st Mx My) : Rl p l e s m below meth c b D cA adX adY cells slots pc i st Mx My :=
  fun H locs ls h1 h2 h3 h4 => lv_iinc (k := 0) C.1.1 C.1.2.1 hd h4 rfl hv (by decide) rfl (fun ls' h' => kk H locs ls' h1 h2 h3 h')
theorem Rl_ret (C : lw_Ctx p s m meth c b L xs D cA adX adY) (hd : decode cL_law pc = .ok (.ireturn, 1)) (hc : cells ≤ 600000 ∧ slots ≤ 7302250) : Rl p l e s m below meth c b D cA adX adY cells slots pc i [.int 1] Mx My :=
  fun H locs ls h1 h2 h3 h4 => va_forget h3.2.2 (W.widen hc.1 hc.2 (lw_ret C.1.1 C.1.2.1 C.1.2.2.1 C.1.2.2.2.2.2.2.2.2.1 hd))
theorem lw_at_lt {H : Heap} {G : Wd} {ad : Nat → Nat} {M : Mem} (hP : va_P D vwCl (r_wo G cA ad M) H) {k : Nat} (hk : k < G.1.length) : ad k < H.size := by
  obtain ⟨sh, hs⟩ : ∃ sh, G.1[k]? = some sh := ⟨G.1[k], List.getElem?_eq_getElem hk⟩
  exact (hP k _ (r_wo_get hs)).lt
theorem lw_other {H H1 : Heap} {G G2 : Wd} {ad ad2 : Nat → Nat} {M M2 : Mem} (hP : va_P D vwCl (r_wo G cA ad M) H) (hne : ∀ i j, i < G2.1.length → j < G.1.length → ad2 i ≠ ad j) (hk : ∀ q : Nat, q < H.size → ¬ va_A (r_wo G2 cA ad2 M2) H.size q → H1[q]? = H[q]?) : va_P D vwCl (r_wo G cA ad M) H1 := by
  refine hP.kept fun k q h => ?_
  have hl : k < G.1.length := by
    have := (List.getElem?_eq_some_iff.mp h).1
    simpa [r_wo] using this
  obtain ⟨sh, hs⟩ : ∃ sh, G.1[k]? = some sh := ⟨G.1[k], List.getElem?_eq_getElem hl⟩
  have hq : q.1 = ad k := by
    have h2 := r_wo_get (cA := cA) (ad := ad) (M := M) hs
    rw [h2] at h
    cases h
    rfl
  rw [hq]
  refine hk _ (lw_at_lt hP hl) fun z => ?_
  rcases z with ⟨k2, x2, z⟩ | z
  · have hl2 : k2 < G2.1.length := by
      have := (List.getElem?_eq_some_iff.mp z).1
      simpa [r_wo] using this
    obtain ⟨sh2, hs2⟩ : ∃ sh, G2.1[k2]? = some sh := ⟨G2.1[k2], List.getElem?_eq_getElem hl2⟩
    have h3 := r_wo_get (cA := cA) (ad := ad2) (M := M2) hs2
    rw [h3] at z
    have : ad2 k2 = ad k := by
      have := congrArg (fun o => o.map Prod.fst) z
      simpa using this
    exact hne k2 k hl2 hl this
  · exact absurd (lw_at_lt hP hl) (by omega)
end RL
