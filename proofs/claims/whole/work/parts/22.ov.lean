-- CONSTRUCTORS: what is made behind l is a table T, laid over the memory ahead of it
def r_Z : Mem := (fun _ _ => 0, fun _ _ => 0, fun _ _ => none)
def r_ov (o : Nat) (T M : Mem) : Mem := (fun x => if x < o then M.1 x else T.1 (x - o), fun x => if x < o then M.2.1 x else T.2.1 (x - o), fun x => if x < o then M.2.2 x else fun k => (T.2.2 (x - o) k).map (fun j => o + j))
def r_eqn (n : Nat) (M M' : Mem) : Prop := ∀ x, x < n → M.1 x = M'.1 x ∧ M.2.1 x = M'.2.1 x ∧ M.2.2 x = M'.2.2 x
theorem r_wo_eqn {G : Wd} {cA : Nat → ClassId} {ad : Nat → Nat} {M M' : Mem} (h : r_eqn G.1.length M M') : r_wo G cA ad M = r_wo G cA ad M' := by
  unfold r_wo
  apply List.map_congr_left
  intro o ho
  obtain ⟨e1, e2, e3⟩ := h o (List.mem_range.mp ho)
  have e4 : ∀ j, r_rf G M o j = r_rf G M' o j := by
    intro j
    unfold r_rf
    rw [e3]
  have e5 : ∀ ci N, r_fs G ad M o ci N = r_fs G ad M' o ci N := by
    intro ci N
    unfold r_fs
    apply List.map_congr_left
    intro j _
    unfold r_fv
    rw [e1, e2, e4]
  unfold r_el
  rw [e5, e1, e2, e3]
theorem Ru_mem {d : Nat} {mt : Mt} {a : (Nat × Nat) × (Nat × Nat)} {pc : Nat} {L : Ls} {st : List Value} {G : Wd} {M M' : Mem} {Q : Rq} (h : r_eqn G.1.length M M') (kk : Ru d mt a pc L st G M' Q) : Ru d mt a pc L st G M Q := by
  intro D cA ad p l e s m args below meth c H locs ls A C
  obtain ⟨h1, h2, h3, h4, h5, h6, h7, h8, h9, h10, h11, h12⟩ := C
  rw [r_wo_eqn h] at h6 h7
  exact kk D cA ad p l e s m args below meth c H locs ls A ⟨h1, h2, h3, h4, h5, h6, h7, h8, h9, h10, h11, h12⟩
theorem Mem_ext {M M' : Mem} (h1 : ∀ x, M.1 x = M'.1 x) (h2 : ∀ x, M.2.1 x = M'.2.1 x) (h3 : ∀ x, M.2.2 x = M'.2.2 x) : M = M' := by
  obtain ⟨a, b, c⟩ := M
  obtain ⟨a', b', c'⟩ := M'
  have e1 : a = a' := funext h1
  have e2 : b = b' := funext h2
  have e3 : c = c' := funext h3
  rw [e1, e2, e3]
theorem r_ov_nw (o n : Nat) (T M : Mem) : r_nw (r_ov o T M) (o + n) = r_ov o (r_nw T n) M := by
  apply Mem_ext <;> intro x <;> by_cases h : x < o <;> by_cases h2 : x = o + n <;> simp [r_nw, r_ov, h, h2] <;> first | omega | (intro h3; omega) | skip
  all_goals (have h4 : ¬ x - o = n := by omega)
  all_goals simp [h4]
theorem r_ov_sI (o i k : Nat) (v : Int32) (T M : Mem) : r_sI (r_ov o T M) (o + i) k v = r_ov o (r_sI T i k v) M := by
  have h0 : ¬ o + i < o := by omega
  apply Mem_ext
  · intro x
    by_cases h : x < o
    · have h2 : ¬ x = o + i := by omega
      simp [r_sI, r_ov, h, h2]
    · by_cases h2 : x = o + i
      · subst h2
        simp [r_sI, r_ov, h0]
      · have h4 : ¬ x - o = i := by omega
        simp [r_sI, r_ov, h, h2, h4]
  · intro x
    rfl
  · intro x
    rfl
theorem r_ov_sJ (o i k : Nat) (v : Int64) (T M : Mem) : r_sJ (r_ov o T M) (o + i) k v = r_ov o (r_sJ T i k v) M := by
  have h0 : ¬ o + i < o := by omega
  apply Mem_ext
  · intro x
    rfl
  · intro x
    by_cases h : x < o
    · have h2 : ¬ x = o + i := by omega
      simp [r_sJ, r_ov, h, h2]
    · by_cases h2 : x = o + i
      · subst h2
        simp [r_sJ, r_ov, h0]
      · have h4 : ¬ x - o = i := by omega
        simp [r_sJ, r_ov, h, h2, h4]
  · intro x
    rfl
theorem r_ov_sR (o i k j : Nat) (T M : Mem) : r_sR (r_ov o T M) (o + i) k (some (o + j)) = r_ov o (r_sR T i k (some j)) M := by
  apply Mem_ext
  · intro x
    rfl
  · intro x
    rfl
  · intro x
    by_cases h : x < o
    · have h2 : ¬ x = o + i := by omega
      simp [r_sR, r_ov, h, h2]
    · by_cases h2 : x = o + i
      · subst h2
        have h0 : ¬ o + i < o := by omega
        funext q
        by_cases hq : q = k <;> simp [r_sR, r_ov, va_up, hq, h0]
      · have h4 : ¬ x - o = i := by omega
        simp [r_sR, r_ov, h, h2, h4]
theorem r_ov_ov (o n : Nat) (T2 T M : Mem) : r_ov (o + n) T2 (r_ov o T M) = r_ov o (r_ov n T2 T) M := by
  apply Mem_ext
  · intro x
    by_cases h : x < o
    · have h2 : x < o + n := by omega
      simp [r_ov, h, h2]
    · by_cases h2 : x < o + n
      · have h3 : x - o < n := by omega
        simp [r_ov, h, h2, h3]
      · have h3 : ¬ x - o < n := by omega
        simp [r_ov, h, h2, h3, Nat.sub_sub]
  · intro x
    by_cases h : x < o
    · have h2 : x < o + n := by omega
      simp [r_ov, h, h2]
    · by_cases h2 : x < o + n
      · have h3 : x - o < n := by omega
        simp [r_ov, h, h2, h3]
      · have h3 : ¬ x - o < n := by omega
        simp [r_ov, h, h2, h3, Nat.sub_sub]
  · intro x
    by_cases h : x < o
    · have h2 : x < o + n := by omega
      simp [r_ov, h, h2]
    · by_cases h2 : x < o + n
      · have h3 : x - o < n := by omega
        simp [r_ov, h, h2, h3]
      · have h3 : ¬ x - o < n := by omega
        funext k
        simp only [r_ov, h, h2, h3, Nat.sub_sub, if_false, Option.map_map]
        congr 1
        funext j
        simp [Nat.add_assoc]
theorem r_ov_eqn (o n : Nat) (T M : Mem) : r_eqn (o + n + 1) (r_ov o (r_nw T n) M) (r_ov (o + n) r_Z (r_ov o T M)) := by
  intro x hx
  rcases Nat.lt_trichotomy x (o + n) with h | h | h
  · by_cases h2 : x < o
    · simp [r_ov, h, h2]
    · have h3 : ¬ x - o = n := by omega
      simp [r_ov, h, h2, r_nw, h3]
  · subst h
    have h0 : ¬ o + n < o := by omega
    simp [r_ov, r_nw, r_Z, h0]
  · omega
def Wo (l t : List (Nat × Nat)) : Wd := (l ++ t, fun _ _ => none, true)
theorem Wo_len (l t : List (Nat × Nat)) : (Wo l t).1.length = l.length + t.length := by simp [Wo]
theorem Wo_at {l t : List (Nat × Nat)} {i : Nat} {sh : Nat × Nat} (h : t[i]? = some sh) : (Wo l t).1[l.length + i]? = some sh := by
  show (l ++ t)[l.length + i]? = some sh
  rw [List.getElem?_append_right (by omega), Nat.add_sub_cancel_left]
  exact h
theorem r_ov_R {l t : List (Nat × Nat)} {T M : Mem} {i k j : Nat} (hr : T.2.2 i k = some j) : r_rf (Wo l t) (r_ov l.length T M) (l.length + i) k = some (l.length + j) := by
  have h0 : ¬ l.length + i < l.length := by omega
  simp [r_rf, Wo, r_ov, hr, h0]
section RO2
variable {d : Nat} {mt : Mt} {a : (Nat × Nat) × (Nat × Nat)} {pc : Nat} {L : Ls} {st : List Value} {l t : List (Nat × Nat)} {T M : Mem} {Q : Rq}
theorem Ro_new {idx ci N : Nat} {C : String} {Tt : u_T} (n : Nat) (t' : List (Nat × Nat)) (cs : Nat × Nat) (hl : l.length + n < 999) (hn : t.length = n) (ht' : t ++ [(ci, N)] = t') (hd : decode mt.2.1 pc = .ok (.new idx, 3)) (hcl : r_cl ci C Tt N) (hw1 : Cond.classLink mt.1.cls idx C ∈ r_W) (hw2 : Cond.instantiable C N ∈ r_W) (hw3 : Cond.initialized C ∈ r_W) (hok : ∀ j, j < N → r_okt (r_ty ci j) = true) (hcs : (a.2.1 + 1, a.2.2 + N) = cs) (hf : a.2.1 + 1 ≤ a.1.1 ∧ a.2.2 + N ≤ a.1.2)
    (kk : Ru d mt (a.1, cs) (pc + 3) L (.ref (l.length + n) :: st) (Wo l t') (r_ov l.length (r_nw T n) M) Q) : Ru d mt a pc L st (Wo l t) (r_ov l.length T M) Q := by
  subst hn ht' hcs
  refine Rn_new (C := C) (T := Tt) rfl (by rw [Wo_len]; omega) hd hcl hw1 hw2 hw3 (fun _ => rfl) hok hf ?_
  have e : r_ad1 (Wo l t) (ci, N) = Wo l (t ++ [(ci, N)]) := by simp [r_ad1, Wo]
  rw [e, Wo_len, r_ov_nw]
  exact kk
theorem Ro_newa {atype : ArrayType} {ty : FieldType} {kd m : Nat} (n : Nat) (t' : List (Nat × Nat)) (cs : Nat × Nat) (hl : l.length + n < 999) (hn : t.length = n) (ht' : t ++ [(kd, m)] = t') (hd : decode mt.2.1 pc = .ok (.newarray atype, 2)) (hty : newarray.typeOf atype = ty) (hkd : (kd = 100 ∧ ty = .int) ∨ (kd = 101 ∧ ty = .long) ∨ (kd = 102 ∧ ty = .byte) ∨ (kd = 103 ∧ ty = .boolean)) (hw : Cond.arrayClass ty ∈ r_W) (hm : m < 65536) (hcs : (a.2.1 + 1, a.2.2 + m) = cs) (hf : a.2.1 + 1 ≤ a.1.1 ∧ a.2.2 + m ≤ a.1.2)
    (kk : Ru d mt (a.1, cs) (pc + 2) L (.ref (l.length + n) :: st) (Wo l t') (r_ov l.length (r_nw T n) M) Q) : Ru d mt a pc L (.int (nI m) :: st) (Wo l t) (r_ov l.length T M) Q := by
  subst hn ht' hcs
  refine Rn_newa (kd := kd) rfl (by rw [Wo_len]; omega) hd hty hkd hw hm hf ?_
  have e : r_ad1 (Wo l t) (kd, m) = Wo l (t ++ [(kd, m)]) := by simp [r_ad1, Wo]
  rw [e, Wo_len, r_ov_nw]
  exact kk
theorem Ro_anew {idx kd m : Nat} {C : String} (n : Nat) (t' : List (Nat × Nat)) (cs : Nat × Nat) (hl : l.length + n < 999) (hn : t.length = n) (ht' : t ++ [(kd, m)] = t') (hd : decode mt.2.1 pc = .ok (.anewarray idx, 3)) (hkd : (kd = 104 ∧ C = RX9) ∨ (kd = 105 ∧ C = RX10)) (hw1 : Cond.classLink mt.1.cls idx C ∈ r_W) (hm : m < 65536) (hcs : (a.2.1 + 1, a.2.2 + m) = cs) (hf : a.2.1 + 1 ≤ a.1.1 ∧ a.2.2 + m ≤ a.1.2)
    (kk : Ru d mt (a.1, cs) (pc + 3) L (.ref (l.length + n) :: st) (Wo l t') (r_ov l.length (r_nw T n) M) Q) : Ru d mt a pc L (.int (nI m) :: st) (Wo l t) (r_ov l.length T M) Q := by
  subst hn ht' hcs
  refine Rn_anew (kd := kd) rfl (by rw [Wo_len]; omega) hd hkd hw1 hm hf ?_
  have e : r_ad1 (Wo l t) (kd, m) = Wo l (t ++ [(kd, m)]) := by simp [r_ad1, Wo]
  rw [e, Wo_len, r_ov_nw]
  exact kk
theorem Ro_putI {idx ci k N i : Nat} {fin : Bool} {x : Int32} (hfin : fin = false ∨ (mt.1.name = "<init>" ∧ ∃ T, vwCl[ci]? = some (mt.1.cls, T, N))) (hd : decode mt.2.1 pc = .ok (.putfield idx, 3)) (hf : r_fl mt.1.cls idx ci k N .int fin) (hs : t[i]? = some (ci, N)) (kk : Ru d mt a (pc + 3) L st (Wo l t) (r_ov l.length (r_sI T i k x) M) Q) : Ru d mt a pc L (.int x :: .ref (l.length + i) :: st) (Wo l t) (r_ov l.length T M) Q :=
  Rn_putI hfin hd hf (Wo_at hs) (by rw [r_ov_sI]; exact kk)
theorem Ro_putJ {idx ci k N i : Nat} {fin : Bool} {x : Int64} (hfin : fin = false ∨ (mt.1.name = "<init>" ∧ ∃ T, vwCl[ci]? = some (mt.1.cls, T, N))) (hd : decode mt.2.1 pc = .ok (.putfield idx, 3)) (hf : r_fl mt.1.cls idx ci k N .long fin) (hs : t[i]? = some (ci, N)) (kk : Ru d mt a (pc + 3) L st (Wo l t) (r_ov l.length (r_sJ T i k x) M) Q) : Ru d mt a pc L (.long x :: .ref (l.length + i) :: st) (Wo l t) (r_ov l.length T M) Q :=
  Rn_putJ hfin hd hf (Wo_at hs) (by rw [r_ov_sJ]; exact kk)
theorem Ro_putR {idx ci k N i j : Nat} {ty : FieldType} {fin : Bool} (hfin : fin = false ∨ (mt.1.name = "<init>" ∧ ∃ T, vwCl[ci]? = some (mt.1.cls, T, N))) (hd : decode mt.2.1 pc = .ok (.putfield idx, 3)) (hf : r_fl mt.1.cls idx ci k N ty fin) (ht : r_ri ty = true) (hs : t[i]? = some (ci, N)) (kk : Ru d mt a (pc + 3) L st (Wo l t) (r_ov l.length (r_sR T i k (some j)) M) Q) : Ru d mt a pc L (.ref (l.length + j) :: .ref (l.length + i) :: st) (Wo l t) (r_ov l.length T M) Q :=
  Rn_putR hfin hd hf ht (Wo_at hs) rfl (by rw [r_ov_sR]; exact kk)
theorem Ro_aast {n i q kd ci N v : Nat} (hd : decode mt.2.1 pc = .ok (.aastore, 1)) (hs : t[i]? = some (kd, n)) (hkd : (kd = 104 ∧ ci = 9) ∨ (kd = 105 ∧ ci = 10)) (hsv : t[v]? = some (ci, N)) (hj : q < n ∧ n < 2147483648) (kk : Ru d mt a (pc + 1) L st (Wo l t) (r_ov l.length (r_sR T i q (some v)) M) Q) : Ru d mt a pc L (.ref (l.length + v) :: .int (nI q) :: .ref (l.length + i) :: st) (Wo l t) (r_ov l.length T M) Q :=
  Rn_aast hd (Wo_at hs) hkd (Wo_at hsv) hj (by rw [r_ov_sR]; exact kk)
theorem Ro_iast {n i q : Nat} {x : Int32} (hd : decode mt.2.1 pc = .ok (.iastore, 1)) (hs : t[i]? = some (100, n)) (hj : q < n ∧ n < 2147483648) (kk : Ru d mt a (pc + 1) L st (Wo l t) (r_ov l.length (r_sI T i q x) M) Q) : Ru d mt a pc L (.int x :: .int (nI q) :: .ref (l.length + i) :: st) (Wo l t) (r_ov l.length T M) Q :=
  Rn_iast hd (Wo_at hs) hj (by rw [r_ov_sI]; exact kk)
theorem Ro_last {n i q : Nat} {x : Int64} (hd : decode mt.2.1 pc = .ok (.lastore, 1)) (hs : t[i]? = some (101, n)) (hj : q < n ∧ n < 2147483648) (kk : Ru d mt a (pc + 1) L st (Wo l t) (r_ov l.length (r_sJ T i q x) M) Q) : Ru d mt a pc L (.long x :: .int (nI q) :: .ref (l.length + i) :: st) (Wo l t) (r_ov l.length T M) Q :=
  Rn_last hd (Wo_at hs) hj (by rw [r_ov_sJ]; exact kk)
theorem Ro_getR {idx ci k N i j : Nat} {ty : FieldType} {fin : Bool} (hd : decode mt.2.1 pc = .ok (.getfield idx, 3)) (hf : r_fl mt.1.cls idx ci k N ty fin) (ht : r_ri ty = true) (hs : t[i]? = some (ci, N)) (hr : T.2.2 i k = some j) (kk : Ru d mt a (pc + 3) L (.ref (l.length + j) :: st) (Wo l t) (r_ov l.length T M) Q) : Ru d mt a pc L (.ref (l.length + i) :: st) (Wo l t) (r_ov l.length T M) Q :=
  Ru_getR _ hd hf (Wo_at hs) ht (r_ov_R hr) kk
theorem Ro_alen {i kd n : Nat} (hd : decode mt.2.1 pc = .ok (.arraylength, 1)) (hs : t[i]? = some (kd, n)) (hkd : 100 ≤ kd ∧ kd ≤ 105) (kk : Ru d mt a (pc + 1) L (.int (nI n) :: st) (Wo l t) (r_ov l.length T M) Q) : Ru d mt a pc L (.ref (l.length + i) :: st) (Wo l t) (r_ov l.length T M) Q :=
  Ru_alen hd (Wo_at hs) hkd kk
theorem Ro_self {t1 : List (Nat × Nat)} {T1 : Mem} (ht : t = t1) (hT : T = T1) (kk : Ru d mt a pc L st (Wo l t1) (r_ov l.length T1 M) Q) : Ru d mt a pc L st (Wo l t) (r_ov l.length T M) Q := by
  subst ht hT
  exact kk
/-- a constructor's own call: the object n, made last, with all that stands behind it -/
theorem Ro_init {d' mc ms idx np n ci N : Nat} {mt' : Mt} {As rest : List Value} {tC : List (Nat × Nat)} {TC : Mem} (t0 t' : List (Nat × Nat)) (cs : Nat × Nat) (lim : Nat) (hl : l.length + n < lim) (ht0 : t = t0 ++ [(ci, N)]) (hn : t0.length = n) (ht' : t0 ++ tC = t') (hd : decode mt.2.1 pc = .ok (.invokespecial idx, 3)) (hm : r_mc mt.1.cls idx mt' np) (hi1 : mt'.1.name = "<init>") (hi2 : Cond.instanceMethod mt'.1 ∈ r_W) (hret : mt'.2.2.2 = none) (hdd : d' + 1 ≤ d) (hnp : As.length = np) (hst : st = As.reverse ++ .ref (l.length + n) :: rest) (hw : (rest.map fun v => v.category).sum ≤ 8) (hcs : (a.2.1 + mc, a.2.2 + ms) = cs) (hf : a.2.1 + mc ≤ a.1.1 ∧ a.2.2 + ms ≤ a.1.2)
    (hc : ∀ (l : List (Nat × Nat)) (M : Mem) (Q : Rq), l.length < lim → Q none (Wo l tC) (r_ov l.length TC M) → Ca d' mt' mc ms (.ref l.length :: As) (Wo l [(ci, N)]) (r_ov l.length r_Z M) Q)
    (kk : Ru d mt (a.1, cs) (pc + 3) L rest (Wo l t') (r_ov l.length (r_ov n TC T) M) Q) : Ru d mt a pc L st (Wo l t) (r_ov l.length (r_nw T n) M) Q := by
  subst ht0 hn ht' hcs
  have e : Wo l (t0 ++ [(ci, N)]) = Wo (l ++ t0) [(ci, N)] := by simp [Wo]
  refine Ru_mem (M' := r_ov (l.length + t0.length) r_Z (r_ov l.length T M)) ?_ ?_
  · rw [Wo_len]
    have := r_ov_eqn l.length t0.length T M
    intro x hx
    exact this x (by simp at hx ⊢; omega)
  · rw [e]
    have el : l.length + t0.length = (l ++ t0).length := by simp
    rw [el] at hst ⊢
    refine Rn_callI hd hm hi1 hi2 hret hdd hnp hst hw hf (hc (l ++ t0) (r_ov l.length T M) _ (by simp; omega) ?_)
    show Ru d mt (a.1, (a.2.1 + mc, a.2.2 + ms)) (pc + 3) L rest _ _ Q
    have e2 : Wo (l ++ t0) tC = Wo l (t0 ++ tC) := by simp [Wo]
    rw [e2, ← el, r_ov_ov]
    exact kk
theorem Ro_initN {d' mc ms idx np n ci N : Nat} {host : String} {mt' : Mt} {As rest : List Value} {tC : List (Nat × Nat)} {TC : Mem} (t0 t' : List (Nat × Nat)) (cs : Nat × Nat) (lim : Nat) (hl : l.length + n < lim) (ht0 : t = t0 ++ [(ci, N)]) (hn : t0.length = n) (ht' : t0 ++ tC = t') (hd : decode mt.2.1 pc = .ok (.invokespecial idx, 3)) (hm : (mt.1.cls, idx, mt'.1, host) ∈ r_nest) (hmf : Cond.initialized mt'.1.cls ∈ r_W ∧ Cond.code mt'.1 mt'.2.1 mt'.2.2.1 mt'.2.2.2 ∈ r_W ∧ (mt'.1.cls ≠ "java/lang/invoke/MethodHandle" ∧ mt'.1.cls ≠ "java/lang/invoke/VarHandle" ∧ (parseMethodDescriptor mt'.1.desc).map (fun d => d.parameters.length) = some np) ∧ mt'.2.2.1 ≤ 29) (hi1 : mt'.1.name = "<init>") (hi2 : Cond.instanceMethod mt'.1 ∈ r_W) (hret : mt'.2.2.2 = none) (hdd : d' + 1 ≤ d) (hnp : As.length = np) (hst : st = As.reverse ++ .ref (l.length + n) :: rest) (hw : (rest.map fun v => v.category).sum ≤ 8) (hcs : (a.2.1 + mc, a.2.2 + ms) = cs) (hf : a.2.1 + mc ≤ a.1.1 ∧ a.2.2 + ms ≤ a.1.2)
    (hc : ∀ (l : List (Nat × Nat)) (M : Mem) (Q : Rq), l.length < lim → Q none (Wo l tC) (r_ov l.length TC M) → Ca d' mt' mc ms (.ref l.length :: As) (Wo l [(ci, N)]) (r_ov l.length r_Z M) Q)
    (kk : Ru d mt (a.1, cs) (pc + 3) L rest (Wo l t') (r_ov l.length (r_ov n TC T) M) Q) : Ru d mt a pc L st (Wo l t) (r_ov l.length (r_nw T n) M) Q := by
  subst ht0 hn ht' hcs
  have e : Wo l (t0 ++ [(ci, N)]) = Wo (l ++ t0) [(ci, N)] := by simp [Wo]
  refine Ru_mem (M' := r_ov (l.length + t0.length) r_Z (r_ov l.length T M)) ?_ ?_
  · rw [Wo_len]
    have := r_ov_eqn l.length t0.length T M
    intro x hx
    exact this x (by simp at hx ⊢; omega)
  · rw [e]
    have el : l.length + t0.length = (l ++ t0).length := by simp
    rw [el] at hst ⊢
    refine Rn_callIN hd hm hmf hi1 hi2 hret hdd hnp hst hw hf (hc (l ++ t0) (r_ov l.length T M) _ (by simp; omega) ?_)
    show Ru d mt (a.1, (a.2.1 + mc, a.2.2 + ms)) (pc + 3) L rest _ _ Q
    have e2 : Wo (l ++ t0) tC = Wo l (t0 ++ tC) := by simp [Wo]
    rw [e2, ← el, r_ov_ov]
    exact kk
theorem Ru_csG {d' idx n : Nat} {mt' : Mt} {As rest : List Value} {G : Wd} (hd : decode mt.2.1 pc = .ok (.invokestatic idx, 3)) (hm : r_ms mt.1.cls idx mt' n) (hdd : d' + 1 ≤ d) (hn : As.length = n) (hst : st = As.reverse ++ rest) (hw : (rest.map fun v => v.category).sum ≤ 8) (hf : a.2.1 ≤ a.1.1 ∧ a.2.2 ≤ a.1.2)
    (kk : Ca d' mt' 0 0 As G M (fun r G' M' => Ru d mt a (pc + 3) L (r_push r rest) G' M' Q)) : Ru d mt a pc L st G M Q :=
  Ru_callS hd hm hdd hn hst hw hf (by simp only [r_push_eq]; exact kk)
end RO2
