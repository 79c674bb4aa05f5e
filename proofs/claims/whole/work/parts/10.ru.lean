-- THE ABSTRACT STATE: objects are numbers, their ints, longs and references are three functions
abbrev Mem : Type := (Nat → Nat → Int32) × (Nat → Nat → Int64) × (Nat → Nat → Option Nat)
abbrev Wd : Type := List (Nat × Nat) × (Nat → Nat → Option Nat) × Bool
abbrev Ls : Type := List (Nat × Option Value)
def r_lget (L : Ls) (k : Nat) : Option Value := match L with
  | [] => none
  | (j, v) :: t => if j = k then v else r_lget t k
def r_cv (ad : Nat → Nat) (v : Value) : Value := match v with
  | .ref a => .ref (ad a)
  | .retAddr _ => (match ad 3000000 with
    | 0 => .null
    | n + 1 => .ref n)
  | w => w
theorem r_cv_cat (ad : Nat → Nat) (v : Value) : (r_cv ad v).category = v.category := by
  cases v <;> first | rfl | (unfold r_cv; dsimp only; split <;> rfl)
def r_at (k : Nat) : FieldType := match k with
  | 0 => .int
  | 1 => .long
  | 2 => .byte
  | 3 => .boolean
  | 4 => .object RX9
  | _ => .object RX10
def r_tys (cA : Nat → ClassId) : List (ClassId × FieldType) := [(cA 0, .int), (cA 1, .long), (cA 2, .byte), (cA 3, .boolean), (cA 4, .object RX9), (cA 5, .object RX10)]
def r_rf (G : Wd) (M : Mem) (o k : Nat) : Option Nat := match G.2.1 o k with
  | some r => some r
  | none => M.2.2 o k
def r_fv (G : Wd) (ad : Nat → Nat) (M : Mem) (o k : Nat) (t : FieldType) : Value := match t with
  | .long => .long (M.2.1 o k)
  | .object _ => va_rf ((r_rf G M o k).map ad)
  | .array _ => va_rf ((r_rf G M o k).map ad)
  | _ => .int (M.1 o k)
def r_fs (G : Wd) (ad : Nat → Nat) (M : Mem) (o ci N : Nat) : List Value := (List.range N).map (fun k => r_fv G ad M o k (r_ty ci k))
def r_el (G : Wd) (cA : Nat → ClassId) (ad : Nat → Nat) (M : Mem) (o : Nat) (sh : Nat × Nat) : va_E :=
  if sh.1 < 100 then .inr (sh.1, r_fs G ad M o sh.1 sh.2)
  else if sh.1 = 101 then .inl (cA 1, sh.2, .inr (.inl (M.2.1 o)))
  else if 104 ≤ sh.1 then .inl (cA (sh.1 - 100), sh.2, .inr (.inr (.inr (.inr (fun k => (M.2.2 o k).map ad)))))
  else .inl (cA (sh.1 - 100), sh.2, .inl (M.1 o))
def r_wo (G : Wd) (cA : Nat → ClassId) (ad : Nat → Nat) (M : Mem) : va_W := (List.range G.1.length).map (fun o => (ad o, r_el G cA ad M o (G.1.getD o (0, 0))))
theorem r_wo_get {G : Wd} {cA : Nat → ClassId} {ad : Nat → Nat} {M : Mem} {o : Nat} {sh : Nat × Nat} (h : G.1[o]? = some sh) : (r_wo G cA ad M)[o]? = some (ad o, r_el G cA ad M o sh) := by
  have hl : o < G.1.length := (List.getElem?_eq_some_iff.mp h).1
  unfold r_wo
  rw [List.getElem?_map, List.getElem?_range hl]
  simp [List.getD, h]
theorem r_wo_set {G : Wd} {cA : Nat → ClassId} {ad : Nat → Nat} {M M' : Mem} {o : Nat} {sh : Nat × Nat} {e : va_E} (h : G.1[o]? = some sh) (he : r_el G cA ad M' o sh = e) (ho : ∀ o' sh', o' ≠ o → r_el G cA ad M' o' sh' = r_el G cA ad M o' sh') : (r_wo G cA ad M).set o (ad o, e) = r_wo G cA ad M' := by
  have hl : o < G.1.length := (List.getElem?_eq_some_iff.mp h).1
  apply List.ext_getElem?
  intro j
  by_cases hj : j = o
  · subst hj
    rw [List.getElem?_set_self (by simp [r_wo]; exact hl), r_wo_get h, he]
  · rw [List.getElem?_set_ne (Ne.symm hj)]
    by_cases hjl : j < G.1.length
    · obtain ⟨s', hs'⟩ : ∃ s', G.1[j]? = some s' := ⟨G.1[j], List.getElem?_eq_getElem hjl⟩
      rw [r_wo_get hs', r_wo_get hs', ho j s' hj]
    · rw [List.getElem?_eq_none (by simp [r_wo]; omega), List.getElem?_eq_none (by simp [r_wo]; omega)]
def r_sI (M : Mem) (o k : Nat) (v : Int32) : Mem := (fun o' => if o' = o then upd (M.1 o) k v else M.1 o', M.2.1, M.2.2)
def r_sJ (M : Mem) (o k : Nat) (v : Int64) : Mem := (M.1, fun o' => if o' = o then vp_updL (M.2.1 o) k v else M.2.1 o', M.2.2)
def r_sR (M : Mem) (o k : Nat) (v : Option Nat) : Mem := (M.1, M.2.1, fun o' => if o' = o then va_up (M.2.2 o) k v else M.2.2 o')
def r_LR (ls : Array Slot) (nL : Nat) (ad : Nat → Nat) (L : Ls) : Prop := ls.size = nL ∧ lv_wf ls ∧ ∀ k v, r_lget L k = some v → ls[k]? = some (.val (r_cv ad v))
def r_room (d mc ms : Nat) : Room := { frames := d, cells := mc, slots := ms, locals := 48 * d }
def r_tx0 : String := "thing wear send making gives hours hands of with person from to ill want at worth eaten stays worn held sent here day or and not by hold"
def r_tx1 : String := ";<>=()"
def r_by0 : List Int32 := [116, 104, 105, 110, 103, 32, 119, 101, 97, 114, 32, 115, 101, 110, 100, 32, 109, 97, 107, 105, 110, 103, 32, 103, 105, 118, 101, 115, 32, 104, 111, 117, 114, 115, 32, 104, 97, 110, 100, 115, 32, 111, 102, 32, 119, 105, 116, 104, 32, 112, 101, 114, 115, 111, 110, 32, 102, 114, 111, 109, 32, 116, 111, 32, 105, 108, 108, 32, 119, 97, 110, 116, 32, 97, 116, 32, 119, 111, 114, 116, 104, 32, 101, 97, 116, 101, 110, 32, 115, 116, 97, 121, 115, 32, 119, 111, 114, 110, 32, 104, 101, 108, 100, 32, 115, 101, 110, 116, 32, 104, 101, 114, 101, 32, 100, 97, 121, 32, 111, 114, 32, 97, 110, 100, 32, 110, 111, 116, 32, 98, 121, 32, 104, 111, 108, 100]
def r_by1 : List Int32 := [59, 60, 62, 61, 40, 41]
def r_byt : List (List Int32) := [r_by0, r_by1]
def r_len : List Nat := [136, 6]
def r_nest : List (String × Nat × MethodName × String) := [("OverNight", 25, (⟨"OverNight$Town", "<init>", "()V"⟩ : MethodName), "OverNight"), ("OverNight$Town", 65, (⟨"OverNight$Law", "<init>", "()V"⟩ : MethodName), "OverNight"), ("OverNight$Town", 72, (⟨"OverNight$Plan", "<init>", "()V"⟩ : MethodName), "OverNight"), ("OverNight", 32, (⟨"OverNight$Law", "<init>", "()V"⟩ : MethodName), "OverNight"), ("OverNight", 39, (⟨"OverNight$Plan", "<init>", "()V"⟩ : MethodName), "OverNight"), ("OverNight", 53, (⟨"OverNight$Nights", "<init>", "()V"⟩ : MethodName), "OverNight"), ("OverNight", 60, (⟨"OverNight$Soon", "<init>", "()V"⟩ : MethodName), "OverNight"), ("OverNight", 67, (⟨"OverNight$Alone", "<init>", "()V"⟩ : MethodName), "OverNight"), ("OverNight$Alone", 29, (⟨"OverNight$Shelf", "<init>", "()V"⟩ : MethodName), "OverNight"), ("OverNight", 74, (⟨"OverNight$Deeds", "<init>", "()V"⟩ : MethodName), "OverNight"), ("OverNight$Deeds", 20, (⟨"OverNight$Shelf", "<init>", "()V"⟩ : MethodName), "OverNight"), ("OverNight", 79, (⟨"OverNight$Tray", "<init>", "()V"⟩ : MethodName), "OverNight")]
def r_Nst (U : State) : Prop := (∀ q ∈ r_nest, va_Nw (.methodLinkNest q.1 q.2.1 q.2.2.1 q.2.2.2) U) ∧ va_AO RX9 U ∧ va_AO RX10 U
theorem r_Nst.warm {s U : State} (hW : s.WarmedH U.vm) (h : r_Nst s) : r_Nst U := ⟨fun q hq => va_Nw.warmM hW (h.1 q hq), h.2.1.moved hW.alike, h.2.2.moved hW.alike⟩
theorem r_Nst.same {s U : State} (hv : U.vm = s.vm) (h : r_Nst s) : r_Nst U := ⟨fun q hq => va_Nw.same rfl hv.symm (h.1 q hq), h.2.1.moved (hv ▸ Vm.Alike.refl _), h.2.2.moved (hv ▸ Vm.Alike.refl _)⟩
/-- the two texts that the tables hold, never written: at ad 1000000, ad 1000001, their bytes at ad 2000000, ad 2000001 -/
def r_St (ad : Nat → Nat) (A : Nat → Prop) (U : State) (H : Heap) : Prop := vk_S 2 r_len r_byt (fun k => ad (1000000 + k)) (fun k => ad (2000000 + k)) A U H ∧ vk_R RX8 36 r_tx0 (ad 1000000) U ∧ vk_R RX8 84 r_tx1 (ad 1000001) U ∧ va_Z "java/lang/String" "COMPACT_STRINGS" "Z" (.int 1) A U H ∧ va_Z "jdk/internal/util/Preconditions" "SIOOBE_FORMATTER" "Ljava/util/function/BiFunction;" (r_cv ad (.retAddr 0)) A U H ∧ r_Nst U
theorem r_St.kept {ad : Nat → Nat} {A : Nat → Prop} {U : State} {H H1 : Heap} (h : r_St ad A U H) (hq : ∀ a : Nat, a < H.size → ¬ A a → H1[a]? = H[a]?) : r_St ad A U H1 := ⟨h.1.kept hq, h.2.1, h.2.2.1, h.2.2.2.1.kept hq, h.2.2.2.2.1.kept hq, h.2.2.2.2.2⟩
theorem r_St.narrow {ad : Nat → Nat} {A B : Nat → Prop} {U : State} {H : Heap} (h : r_St ad A U H) (hAB : ∀ q, B q → A q) : r_St ad B U H := ⟨h.1.narrow hAB, h.2.1, h.2.2.1, h.2.2.2.1.narrow hAB, h.2.2.2.2.1.narrow hAB, h.2.2.2.2.2⟩
theorem r_St.warm {ad : Nat → Nat} {A : Nat → Prop} {s U : State} {H : Heap} (hW : s.WarmedH U.vm) (h : r_St ad A s H) : r_St ad A U H := ⟨h.1.moved hW.alike, h.2.1.warm hW, h.2.2.1.warm hW, h.2.2.2.1.moved hW.alike, h.2.2.2.2.1.moved hW.alike, h.2.2.2.2.2.warm hW⟩
theorem r_St.same {ad : Nat → Nat} {A : Nat → Prop} {s U : State} {H : Heap} (hv : U.vm = s.vm) (h : r_St ad A s H) : r_St ad A U H := ⟨h.1.moved (hv ▸ Vm.Alike.refl _), h.2.1.same hv, h.2.2.1.same hv, h.2.2.2.1.moved (hv ▸ Vm.Alike.refl _), h.2.2.2.2.1.moved (hv ▸ Vm.Alike.refl _), h.2.2.2.2.2.same hv⟩
def r_gr (G : Wd) (ad : Nat → Nat) (sz : Nat) : Prop := G.2.2 = true → ∀ j, G.1.length + j < 1000 → ad (G.1.length + j) = sz + j
def r_Cx (G : Wd) (mt : Mt) (L : Ls) (M : Mem) (D : va_G) (cA : Nat → ClassId) (ad : Nat → Nat) (p : Program) (s : State) (m : MethodId) (args : Array Value) (meth : Method) (c : Code) (H : Heap) (locs : List Loc) (ls : Array Slot) (A : Nat → Prop) : Prop :=
  CallFix p m c mt.2.1 mt.2.2.1 s args (r_ws mt) mt.1.cls ∧ meth.locks = false ∧ meth.sig.returnType = mt.2.2.2 ∧ meth.name = mt.1.name ∧ va_K D vwCl (r_tys cA) s ∧ va_P D vwCl (r_wo G cA ad M) H ∧ va_D A (r_wo G cA ad M) ∧ va_S A s.heap H locs ∧ (∀ q, s.heap.size ≤ q → A q) ∧ r_LR ls mt.2.2.1 ad L ∧ r_gr G ad H.size ∧ r_St ad A s s.heap
abbrev Rq : Type := Option Value → Wd → Mem → Prop
def r_Qc (D : va_G) (cA : Nat → ClassId) (ad : Nat → Nat) (A : Nat → Prop) (Q : Rq) : Array Value → State → Outcome → State → Prop := fun _ st oc t =>
  (∃ (r : Option Value) (G : Wd) (M : Mem), oc = .returned (r.map (r_cv ad)) ∧ Q r G M ∧ va_P D vwCl (r_wo G cA ad M) t.heap ∧ va_K D vwCl (r_tys cA) t ∧ va_D A (r_wo G cA ad M) ∧ r_gr G ad t.heap.size) ∧ va_F A st t
def Ru (d : Nat) (mt : Mt) (a : (Nat × Nat) × (Nat × Nat)) (pc : Nat) (L : Ls) (st : List Value) (G : Wd) (M : Mem) (Q : Rq) : Prop :=
  ∀ (D : va_G) (cA : Nat → ClassId) (ad : Nat → Nat) (p : Program) (l : Launch) (e : Env) (s : State) (m : MethodId) (args : Array Value) (below : List Frame) (meth : Method) (c : Code) (H : Heap) (locs : List Loc) (ls : Array Slot) (A : Nat → Prop),
    r_Cx G mt L M D cA ad p s m args meth c H locs ls A →
    W p l e (r_room d a.1.1 a.1.2) s m args below meth c H locs a.2.1 a.2.2 (MQ below (r_Qc D cA ad A Q) args s a.1.1 a.1.2 A) (F0 m pc ls (st.map (r_cv ad)))
def r_Pre (D : va_G) (cA : Nat → ClassId) (ad : Nat → Nat) (sz : Nat) (G : Wd) (M : Mem) (U : State) : Prop := U.heap.size = sz ∧ va_P D vwCl (r_wo G cA ad M) U.heap ∧ va_K D vwCl (r_tys cA) U ∧ va_D (fun _ => True) (r_wo G cA ad M) ∧ r_gr G ad sz ∧ r_St ad (va_A (r_wo G cA ad M) sz) U U.heap
def Ca (d : Nat) (mt : Mt) (mc ms : Nat) (av : List Value) (G : Wd) (M : Mem) (Q : Rq) : Prop :=
  ∀ (l : Launch) (D : va_G) (cA : Nat → ClassId) (ad : Nat → Nat) (sz : Nat), Met l mt.1 (r_ws mt) (r_room d mc ms) (va_Pc (av.map (r_cv ad)) (r_Pre D cA ad sz G M)) (r_Qc D cA ad (va_A (r_wo G cA ad M) sz) Q) mc ms (va_A (r_wo G cA ad M) sz)
-- locals
def r_full (ad : Nat → Nat) (L : Ls) (n : Nat) : List (Nat × Value) := (List.range n).filterMap (fun k => (r_lget L k).map (fun v => (k, r_cv ad v)))
theorem r_full_mem {ad : Nat → Nat} {L : Ls} {n k : Nat} {v : Value} (hk : k < n) (h : r_lget L k = some v) : (k, r_cv ad v) ∈ r_full ad L n :=
  List.mem_filterMap.mpr ⟨k, List.mem_range.mpr hk, by rw [h]; rfl⟩
theorem r_LR.has {ls : Array Slot} {nL : Nat} {ad : Nat → Nat} {L : Ls} (h : r_LR ls nL ad L) : lv_has ls nL (r_full ad L nL) := by
  refine ⟨h.1, h.2.1, fun q hq => ?_⟩
  obtain ⟨k, -, hk⟩ := List.mem_filterMap.mp hq
  cases hg : r_lget L k with
  | none => rw [hg] at hk; cases hk
  | some v =>
    rw [hg] at hk
    cases hk
    exact h.2.2 k v hg
theorem r_LR.lt {ls : Array Slot} {nL : Nat} {ad : Nat → Nat} {L : Ls} (h : r_LR ls nL ad L) {k : Nat} {v : Value} (hk : r_lget L k = some v) : k < nL := by
  have h1 := (Array.getElem?_eq_some_iff.mp (h.2.2 k v hk)).1
  rw [h.1] at h1
  exact h1
def r_nl (L : Ls) (i : Nat) : Bool := match i with
  | 0 => true
  | j + 1 => match r_lget L j with
    | some v => v.category == 1
    | none => true
theorem r_LR.set1 {ls ls' : Array Slot} {nL : Nat} {ad : Nat → Nat} {L : Ls} {i : Nat} {v w : Value} (h : r_LR ls nL ad L) (hw : w = r_cv ad v) (hn : r_nl L i = true)
    (h' : lv_has ls' nL ((i, w) :: (r_full ad L nL).filter (fun q => !(q.1 == i) && !(q.1 + 1 == i && q.2.category == 2)))) : r_LR ls' nL ad ((i, some v) :: L) := by
  refine ⟨h'.1, h'.2.1, fun k u hk => ?_⟩
  by_cases hik : i = k
  · subst hik
    have hu : u = v := by simpa [r_lget] using hk.symm
    subst hu
    rw [← hw]
    exact h'.2.2 (i, w) List.mem_cons_self
  · have hk2 : r_lget L k = some u := by simpa [r_lget, hik] using hk
    refine h'.2.2 (k, r_cv ad u) (List.mem_cons_of_mem _ (List.mem_filter.mpr ⟨r_full_mem (h.lt hk2) hk2, ?_⟩))
    by_cases hki : k + 1 = i
    · subst hki
      have hc : u.category = 1 := by simpa [r_nl, hk2] using hn
      simp [r_cv_cat, hc]
    · have : ¬ k = i := fun z => hik z.symm
      simp [this, hki]
theorem r_LR.set2 {ls ls' : Array Slot} {nL : Nat} {ad : Nat → Nat} {L : Ls} {i : Nat} {v w : Value} (h : r_LR ls nL ad L) (hw : w = r_cv ad v) (hn : r_nl L i = true)
    (h' : lv_has ls' nL ((i, w) :: (r_full ad L nL).filter (fun q => !(q.1 == i) && (!(q.1 == i + 1) && !(q.1 + 1 == i && q.2.category == 2))))) : r_LR ls' nL ad ((i, some v) :: (i + 1, none) :: L) := by
  refine ⟨h'.1, h'.2.1, fun k u hk => ?_⟩
  by_cases hik : i = k
  · subst hik
    have hu : u = v := by simpa [r_lget] using hk.symm
    subst hu
    rw [← hw]
    exact h'.2.2 (i, w) List.mem_cons_self
  · by_cases hik1 : i + 1 = k
    · exfalso
      subst hik1
      simp [r_lget] at hk
    · have hk2 : r_lget L k = some u := by simpa [r_lget, hik, hik1] using hk
      refine h'.2.2 (k, r_cv ad u) (List.mem_cons_of_mem _ (List.mem_filter.mpr ⟨r_full_mem (h.lt hk2) hk2, ?_⟩))
      have h1 : ¬ k = i := fun z => hik z.symm
      have h2 : ¬ k = i + 1 := fun z => hik1 z.symm
      by_cases hki : k + 1 = i
      · subst hki
        have hc : u.category = 1 := by simpa [r_nl, hk2] using hn
        simp [r_cv_cat, hc]
        omega
      · simp [h1, h2, hki]
theorem r_LR.sub {ls : Array Slot} {nL : Nat} {ad : Nat → Nat} {L L' : Ls} (h : r_LR ls nL ad L) (hs : ∀ k v, r_lget L' k = some v → r_lget L k = some v) : r_LR ls nL ad L' := ⟨h.1, h.2.1, fun k v hk => h.2.2 k v (hs k v hk)⟩
theorem r_lsub {L L' : Ls} (h : L'.map (fun q => r_lget L q.1) = L'.map (fun q => q.2)) : ∀ k v, r_lget L' k = some v → r_lget L k = some v := by
  induction L' with
  | nil => intro k v hk; simp [r_lget] at hk
  | cons q t ih =>
    intro k v hk
    obtain ⟨j, w⟩ := q
    rw [List.map_cons, List.map_cons] at h
    injection h with h1 h2
    by_cases hj : j = k
    · subst hj
      have hw : w = some v := by simpa [r_lget] using hk
      exact h1.trans hw
    · exact ih h2 k v (by simpa [r_lget, hj] using hk)
section RU
variable {d : Nat} {mt : Mt} {a : (Nat × Nat) × (Nat × Nat)} {pc : Nat} {L : Ls} {st : List Value} {G : Wd} {M : Mem} {Q : Rq}
theorem Ru_weak {L' : Ls} (kk : Ru d mt a pc L' st G M Q) (h : L'.map (fun q => r_lget L q.1) = L'.map (fun q => q.2)) : Ru d mt a pc L st G M Q := by
  intro D cA ad p l e s m args below meth c H locs ls A C
  obtain ⟨h1, h2, h3, h4, h5, h6, h7, h8, h9, h10, h11, h12⟩ := C
  exact kk D cA ad p l e s m args below meth c H locs ls A ⟨h1, h2, h3, h4, h5, h6, h7, h8, h9, h10.sub (r_lsub h), h11, h12⟩
theorem Ru_kill (i : Nat) (kk : Ru d mt a pc ((i, none) :: L) st G M Q) : Ru d mt a pc L st G M Q := by
  intro D cA ad p l e s m args below meth c H locs ls A C
  obtain ⟨h1, h2, h3, h4, h5, h6, h7, h8, h9, h10, h11, h12⟩ := C
  refine kk D cA ad p l e s m args below meth c H locs ls A ⟨h1, h2, h3, h4, h5, h6, h7, h8, h9, h10.sub (fun k v hk => ?_), h11, h12⟩
  by_cases hik : i = k
  · simp [r_lget, hik] at hk
  · simpa [r_lget, hik] using hk
theorem Ru_pure {pc' : Nat} {st' : List Value} (kk : Ru d mt a pc' L st' G M Q)
    (h : ∀ (ad : Nat → Nat) (p : Program) (l : Launch) (e : Env) (R : Room) (s : State) (m : MethodId) (args : Array Value) (below : List Frame) (meth : Method) (c : Code) (H : Heap) (locs : List Loc) (cells slots : Nat) (Z : State → Prop) (ls : Array Slot), p.tables.exec = Jvm.exec → c.code = mt.2.1 → (s.vm.findClass mt.1.cls = some m.cls ∧ ∀ w ∈ r_ws mt, w.before args s = true) → r_LR ls mt.2.2.1 ad L →
      W p l e R s m args below meth c H locs cells slots Z (F0 m pc' ls (st'.map (r_cv ad))) → W p l e R s m args below meth c H locs cells slots Z (F0 m pc ls (st.map (r_cv ad)))) : Ru d mt a pc L st G M Q := by
  intro D cA ad p l e s m args below meth c H locs ls A C
  have C0 := C
  obtain ⟨⟨hx, hb, hml, hown, hts⟩, h2, h3, h4, h5, h6, h7, h8, h9, h10, h11, h12⟩ := C
  exact h ad p l e _ s m args below meth c H locs _ _ _ ls hx hb ⟨hown, hts⟩ h10 (kk D cA ad p l e s m args below meth c H locs ls A C0)
theorem Ru_br {pc1 pc2 : Nat} {st' : List Value} {P : Prop} (kt : P → Ru d mt a pc1 L st' G M Q) (kf : ¬ P → Ru d mt a pc2 L st' G M Q)
    (h : ∀ (ad : Nat → Nat) (p : Program) (l : Launch) (e : Env) (R : Room) (s : State) (m : MethodId) (args : Array Value) (below : List Frame) (meth : Method) (c : Code) (H : Heap) (locs : List Loc) (cells slots : Nat) (Z : State → Prop) (ls : Array Slot), p.tables.exec = Jvm.exec → c.code = mt.2.1 →
      (P → W p l e R s m args below meth c H locs cells slots Z (F0 m pc1 ls (st'.map (r_cv ad)))) → (¬ P → W p l e R s m args below meth c H locs cells slots Z (F0 m pc2 ls (st'.map (r_cv ad)))) → W p l e R s m args below meth c H locs cells slots Z (F0 m pc ls (st.map (r_cv ad)))) : Ru d mt a pc L st G M Q := by
  intro D cA ad p l e s m args below meth c H locs ls A C
  have C0 := C
  obtain ⟨⟨hx, hb, hml, hown, hts⟩, h2, h3, h4, h5, h6, h7, h8, h9, h10, h11, h12⟩ := C
  exact h ad p l e _ s m args below meth c H locs _ _ _ ls hx hb (fun z => kt z D cA ad p l e s m args below meth c H locs ls A C0) (fun z => kf z D cA ad p l e s m args below meth c H locs ls A C0)
theorem Ru_st {i : Nat} {L' : Ls} {st' : List Value} {n : Nat} (kk : Ru d mt a (pc + n) L' st' G M Q)
    (h : ∀ (ad : Nat → Nat) (p : Program) (l : Launch) (e : Env) (R : Room) (s : State) (m : MethodId) (args : Array Value) (below : List Frame) (meth : Method) (c : Code) (H : Heap) (locs : List Loc) (cells slots : Nat) (Z : State → Prop) (ls : Array Slot), p.tables.exec = Jvm.exec → c.code = mt.2.1 → r_LR ls mt.2.2.1 ad L → i < mt.2.2.1 →
      (∀ ls' : Array Slot, r_LR ls' mt.2.2.1 ad L' → W p l e R s m args below meth c H locs cells slots Z (F0 m (pc + n) ls' (st'.map (r_cv ad)))) → W p l e R s m args below meth c H locs cells slots Z (F0 m pc ls (st.map (r_cv ad)))) (hi : i < mt.2.2.1) : Ru d mt a pc L st G M Q := by
  intro D cA ad p l e s m args below meth c H locs ls A C
  obtain ⟨⟨hx, hb, hml, hown, hts⟩, h2, h3, h4, h5, h6, h7, h8, h9, h10, h11, h12⟩ := C
  exact h ad p l e _ s m args below meth c H locs _ _ _ ls hx hb h10 hi (fun ls' hL' => kk D cA ad p l e s m args below meth c H locs ls' A ⟨⟨hx, hb, hml, hown, hts⟩, h2, h3, h4, h5, h6, h7, h8, h9, hL', h11, h12⟩)
theorem Ru_eq {st' : List Value} (h : st = st') (kk : Ru d mt a pc L st' G M Q) : Ru d mt a pc L st G M Q := h ▸ kk
theorem Ru_top {x y : Int32} (h : x = y) (kk : Ru d mt a pc L (.int y :: st) G M Q) : Ru d mt a pc L (.int x :: st) G M Q := h ▸ kk
theorem Ru_topL {x y : Int64} (h : x = y) (kk : Ru d mt a pc L (.long y :: st) G M Q) : Ru d mt a pc L (.long x :: st) G M Q := h ▸ kk
theorem Ru_nm {x : Int32} (kk : ∀ y, y = x → Ru d mt a pc L (.int y :: st) G M Q) : Ru d mt a pc L (.int x :: st) G M Q := kk x rfl
theorem Ru_iconst {n : Int} (v : Int32) (hd : decode mt.2.1 pc = .ok (.iconst n, 1)) (hv : Int32.ofInt n = v) (kk : Ru d mt a (pc + 1) L (.int v :: st) G M Q) : Ru d mt a pc L st G M Q :=
  Ru_pure kk fun _ _ _ _ _ _ _ _ _ _ _ _ _ _ _ _ _ hx hb _ _ k => lv_iconst hx hb hd hv k
theorem Ru_bipush {n : Int} (v : Int32) (hd : decode mt.2.1 pc = .ok (.bipush n, 2)) (hv : (Int8.ofInt n).toInt32 = v) (kk : Ru d mt a (pc + 2) L (.int v :: st) G M Q) : Ru d mt a pc L st G M Q :=
  Ru_pure kk fun _ _ _ _ _ _ _ _ _ _ _ _ _ _ _ _ _ hx hb _ _ k => lv_bipush hx hb hd hv k
theorem Ru_sipush {n : Int} (v : Int32) (hd : decode mt.2.1 pc = .ok (.sipush n, 3)) (hv : (Int16.ofInt n).toInt32 = v) (kk : Ru d mt a (pc + 3) L (.int v :: st) G M Q) : Ru d mt a pc L st G M Q :=
  Ru_pure kk fun _ _ _ _ _ _ _ _ _ _ _ _ _ _ _ _ _ hx hb _ _ k => lv_sipush hx hb hd hv k
theorem Ru_lconst {n : Fin 2} (v : Int64) (hd : decode mt.2.1 pc = .ok (.lconst n, 1)) (hv : Int64.ofNat (n : Nat) = v) (kk : Ru d mt a (pc + 1) L (.long v :: st) G M Q) : Ru d mt a pc L st G M Q :=
  Ru_pure kk fun _ _ _ _ _ _ _ _ _ _ _ _ _ _ _ _ _ hx hb _ _ k => lv_lconst hx hb hd hv k
theorem Ru_iload_n {k : Fin 4} {i : Nat} {x : Int32} (hd : decode mt.2.1 pc = .ok (.iload_n k, 1)) (hi : (k : Nat) = i) (hl : r_lget L i = some (.int x)) (kk : Ru d mt a (pc + 1) L (.int x :: st) G M Q) : Ru d mt a pc L st G M Q :=
  Ru_pure kk fun _ _ _ _ _ _ _ _ _ _ _ _ _ _ _ _ _ hx hb _ hL k => lv_iload_n hx hb hd hi (hL.2.2 _ _ hl) k
theorem Ru_iload {i : Nat} {x : Int32} (hd : decode mt.2.1 pc = .ok (.iload i, 2)) (hl : r_lget L i = some (.int x)) (kk : Ru d mt a (pc + 2) L (.int x :: st) G M Q) : Ru d mt a pc L st G M Q :=
  Ru_pure kk fun _ _ _ _ _ _ _ _ _ _ _ _ _ _ _ _ _ hx hb _ hL k => lv_iload hx hb hd (hL.2.2 _ _ hl) k
theorem Ru_lload_n {k : Fin 4} {i : Nat} {x : Int64} (hd : decode mt.2.1 pc = .ok (.lload_n k, 1)) (hi : (k : Nat) = i) (hl : r_lget L i = some (.long x)) (kk : Ru d mt a (pc + 1) L (.long x :: st) G M Q) : Ru d mt a pc L st G M Q :=
  Ru_pure kk fun _ _ _ _ _ _ _ _ _ _ _ _ _ _ _ _ _ hx hb _ hL k => lv_lload_n hx hb hd hi (hL.2.2 _ _ hl) k
theorem Ru_lload {i : Nat} {x : Int64} (hd : decode mt.2.1 pc = .ok (.lload i, 2)) (hl : r_lget L i = some (.long x)) (kk : Ru d mt a (pc + 2) L (.long x :: st) G M Q) : Ru d mt a pc L st G M Q :=
  Ru_pure kk fun _ _ _ _ _ _ _ _ _ _ _ _ _ _ _ _ _ hx hb _ hL k => lv_lload hx hb hd (hL.2.2 _ _ hl) k
theorem Ru_aload_n {k : Fin 4} {i : Nat} {x : Nat} (hd : decode mt.2.1 pc = .ok (.aload_n k, 1)) (hi : (k : Nat) = i) (hl : r_lget L i = some (.ref x)) (kk : Ru d mt a (pc + 1) L (.ref x :: st) G M Q) : Ru d mt a pc L st G M Q :=
  Ru_pure kk fun _ _ _ _ _ _ _ _ _ _ _ _ _ _ _ _ _ hx hb _ hL k => lv_aload_n hx hb hd hi (hL.2.2 _ _ hl) k
theorem Ru_aload {i : Nat} {x : Nat} (hd : decode mt.2.1 pc = .ok (.aload i, 2)) (hl : r_lget L i = some (.ref x)) (kk : Ru d mt a (pc + 2) L (.ref x :: st) G M Q) : Ru d mt a pc L st G M Q :=
  Ru_pure kk fun _ _ _ _ _ _ _ _ _ _ _ _ _ _ _ _ _ hx hb _ hL k => lv_aload hx hb hd (hL.2.2 _ _ hl) k
theorem Ru_istore_n {k : Fin 4} {i : Nat} {x : Int32} (hd : decode mt.2.1 pc = .ok (.istore_n k, 1)) (hi : (k : Nat) = i) (hn : r_nl L i = true) (hlt : i < mt.2.2.1) (kk : Ru d mt a (pc + 1) ((i, some (.int x)) :: L) st G M Q) : Ru d mt a pc L (.int x :: st) G M Q :=
  Ru_st (i := i) kk (fun _ _ _ _ _ _ _ _ _ _ _ _ _ _ _ _ _ hx hb hL hi2 k => lv_istore_n hx hb hd hi hL.has hi2 rfl (fun _ h' => k _ (hL.set1 rfl hn h'))) hlt
theorem Ru_istore {i : Nat} {x : Int32} (hd : decode mt.2.1 pc = .ok (.istore i, 2)) (hn : r_nl L i = true) (hlt : i < mt.2.2.1) (kk : Ru d mt a (pc + 2) ((i, some (.int x)) :: L) st G M Q) : Ru d mt a pc L (.int x :: st) G M Q :=
  Ru_st (i := i) kk (fun _ _ _ _ _ _ _ _ _ _ _ _ _ _ _ _ _ hx hb hL hi2 k => lv_istore hx hb hd hL.has hi2 rfl (fun _ h' => k _ (hL.set1 rfl hn h'))) hlt
theorem Ru_lstore_n {k : Fin 4} {i : Nat} {x : Int64} (hd : decode mt.2.1 pc = .ok (.lstore_n k, 1)) (hi : (k : Nat) = i) (hn : r_nl L i = true) (hlt : i + 1 < mt.2.2.1) (kk : Ru d mt a (pc + 1) ((i, some (.long x)) :: (i + 1, none) :: L) st G M Q) : Ru d mt a pc L (.long x :: st) G M Q :=
  Ru_st (i := i + 1) kk (fun _ _ _ _ _ _ _ _ _ _ _ _ _ _ _ _ _ hx hb hL hi2 k => lv_lstore_n hx hb hd hi hL.has hi2 rfl (fun _ h' => k _ (hL.set2 rfl hn h'))) hlt
theorem Ru_lstore {i : Nat} {x : Int64} (hd : decode mt.2.1 pc = .ok (.lstore i, 2)) (hn : r_nl L i = true) (hlt : i + 1 < mt.2.2.1) (kk : Ru d mt a (pc + 2) ((i, some (.long x)) :: (i + 1, none) :: L) st G M Q) : Ru d mt a pc L (.long x :: st) G M Q :=
  Ru_st (i := i + 1) kk (fun _ _ _ _ _ _ _ _ _ _ _ _ _ _ _ _ _ hx hb hL hi2 k => lv_lstore hx hb hd hL.has hi2 rfl (fun _ h' => k _ (hL.set2 rfl hn h'))) hlt
theorem Ru_astore_n {k : Fin 4} {i : Nat} {x : Nat} (hd : decode mt.2.1 pc = .ok (.astore_n k, 1)) (hi : (k : Nat) = i) (hn : r_nl L i = true) (hlt : i < mt.2.2.1) (kk : Ru d mt a (pc + 1) ((i, some (.ref x)) :: L) st G M Q) : Ru d mt a pc L (.ref x :: st) G M Q :=
  Ru_st (i := i) kk (fun _ _ _ _ _ _ _ _ _ _ _ _ _ _ _ _ _ hx hb hL hi2 k => lv_astore_n hx hb hd hi hL.has hi2 rfl (fun _ h' => k _ (hL.set1 rfl hn h'))) hlt
theorem Ru_astore {i : Nat} {x : Nat} (hd : decode mt.2.1 pc = .ok (.astore i, 2)) (hn : r_nl L i = true) (hlt : i < mt.2.2.1) (kk : Ru d mt a (pc + 2) ((i, some (.ref x)) :: L) st G M Q) : Ru d mt a pc L (.ref x :: st) G M Q :=
  Ru_st (i := i) kk (fun _ _ _ _ _ _ _ _ _ _ _ _ _ _ _ _ _ hx hb hL hi2 k => lv_astore hx hb hd hL.has hi2 rfl (fun _ h' => k _ (hL.set1 rfl hn h'))) hlt
theorem Ru_iinc {i : Nat} {n : Int} {x : Int32} (v : Int32) (hd : decode mt.2.1 pc = .ok (.iinc i n, 3)) (hl : r_lget L i = some (.int x)) (hv : x + Int32.ofInt n = v) (hn : r_nl L i = true) (hlt : i < mt.2.2.1) (kk : Ru d mt a (pc + 3) ((i, some (.int v)) :: L) st G M Q) : Ru d mt a pc L st G M Q :=
  Ru_st (i := i) kk (fun ad _ _ _ _ _ _ _ _ _ _ _ _ _ _ _ _ hx hb hL hi2 k => by
    obtain ⟨j, hj⟩ := List.getElem?_of_mem (r_full_mem (ad := ad) (hL.lt hl) hl)
    exact lv_iinc hx hb hd hL.has hj hv hi2 rfl (fun _ h' => k _ (hL.set1 (v := .int v) rfl hn h'))) hlt
theorem Ru_goto {off : Int} (tgt : Nat) (hd : decode mt.2.1 pc = .ok (.goto off, 3)) (ht : (pc : Int) + off = (tgt : Int)) (kk : Ru d mt a tgt L st G M Q) : Ru d mt a pc L st G M Q :=
  Ru_pure kk fun _ _ _ _ _ _ _ _ _ _ _ _ _ _ _ _ _ hx hb _ _ k => lv_goto hx hb hd ht k
end RU
