def r_cd0 : List Nat := [116, 104, 105, 110, 103, 32, 119, 101, 97, 114, 32, 115, 101, 110, 100, 32, 109, 97, 107, 105, 110, 103, 32, 103, 105, 118, 101, 115, 32, 104, 111, 117, 114, 115, 32, 104, 97, 110, 100, 115, 32, 111, 102, 32, 119, 105, 116, 104, 32, 112, 101, 114, 115, 111, 110, 32, 102, 114, 111, 109, 32, 116, 111, 32, 105, 108, 108, 32, 119, 97, 110, 116, 32, 97, 116, 32, 119, 111, 114, 116, 104, 32, 101, 97, 116, 101, 110, 32, 115, 116, 97, 121, 115, 32, 119, 111, 114, 110, 32, 104, 101, 108, 100, 32, 115, 101, 110, 116, 32, 104, 101, 114, 101, 32, 100, 97, 121, 32, 111, 114, 32, 97, 110, 100, 32, 110, 111, 116, 32, 98, 121, 32, 104, 111, 108, 100]
def r_cd1 : List Nat := [59, 60, 62, 61, 40, 41]
def r_cd (k j : Nat) : Nat := ([r_cd0, r_cd1].getD k []).getD j 0
theorem r_cd_ok : ∀ k, k < 2 → ∀ j, j < r_len.getD k 0 → (((r_byt.getD k []).getD j 0 &&& 255).toUInt32 % 65536).toInt32 = nI (r_cd k j) ∧ (r_byt.getD k []).getD j 0 = nI (r_cd k j) ∧ r_cd k j < 128 := by decide +kernel
theorem r_lenlt : ∀ k, k < 2 → r_len.getD k 0 < 1000 := by decide
section RS
variable {d : Nat} {mt : Mt} {a : (Nat × Nat) × (Nat × Nat)} {pc : Nat} {L : Ls} {st rest : List Value} {G : Wd} {M : Mem} {Q : Rq}
theorem Ru_getsZ {idx : Nat} (hd : decode mt.2.1 pc = .ok (.getstatic idx, 3)) (hw : Cond.fieldLink mt.1.cls idx "java/lang/String" "COMPACT_STRINGS" "Z" ∈ r_W) (kk : Ru d mt a (pc + 3) L (.int 1 :: st) G M Q) : Ru d mt a pc L st G M Q := by
  intro D cA ad p l e s m args below meth c H locs ls A C
  have C0 := C
  obtain ⟨⟨hx, hb, hml, hown, hts⟩, h2, h3, h4, hK, hP, hD, hS, hA, hL, hg, hZ⟩ := C
  have ht := fun w (h : w ∈ r_W) => hts w (List.mem_cons_of_mem _ h)
  exact va_gets hx hb hZ.2.2.2.1 hS hown (ht _ hw) (fun _ z => z) hd (kk D cA ad p l e s m args below meth c H locs ls A C0)
theorem Ru_getsF {idx : Nat} (hd : decode mt.2.1 pc = .ok (.getstatic idx, 3)) (hw : Cond.fieldLink mt.1.cls idx "jdk/internal/util/Preconditions" "SIOOBE_FORMATTER" "Ljava/util/function/BiFunction;" ∈ r_W) (kk : Ru d mt a (pc + 3) L (.retAddr 0 :: st) G M Q) : Ru d mt a pc L st G M Q := by
  intro D cA ad p l e s m args below meth c H locs ls A C
  have C0 := C
  obtain ⟨⟨hx, hb, hml, hown, hts⟩, h2, h3, h4, hK, hP, hD, hS, hA, hL, hg, hZ⟩ := C
  have ht := fun w (h : w ∈ r_W) => hts w (List.mem_cons_of_mem _ h)
  exact va_gets hx hb hZ.2.2.2.2.1 hS hown (ht _ hw) (fun _ z => z) hd (kk D cA ad p l e s m args below meth c H locs ls A C0)
theorem Ru_sval {idx k : Nat} (hk : k < 2) (hd : decode mt.2.1 pc = .ok (.getfield idx, 3)) (hw : Cond.fieldLink mt.1.cls idx "java/lang/String" "value" "[B" ∈ r_W) (kk : Ru d mt a (pc + 3) L (.ref (2000000 + k) :: st) G M Q) : Ru d mt a pc L (.ref (1000000 + k) :: st) G M Q := by
  intro D cA ad p l e s m args below meth c H locs ls A C
  have C0 := C
  obtain ⟨⟨hx, hb, hml, hown, hts⟩, h2, h3, h4, hK, hP, hD, hS, hA, hL, hg, hZ⟩ := C
  have ht := fun w (h : w ∈ r_W) => hts w (List.mem_cons_of_mem _ h)
  exact vk_getf hx hb (hZ.1.1 k hk).2.2.1 hS hown (ht _ hw) (fun _ z => z) hd (kk D cA ad p l e s m args below meth c H locs ls A C0)
theorem Ru_scod {idx k : Nat} (hk : k < 2) (hd : decode mt.2.1 pc = .ok (.getfield idx, 3)) (hw : Cond.fieldLink mt.1.cls idx "java/lang/String" "coder" "B" ∈ r_W) (kk : Ru d mt a (pc + 3) L (.int 0 :: st) G M Q) : Ru d mt a pc L (.ref (1000000 + k) :: st) G M Q := by
  intro D cA ad p l e s m args below meth c H locs ls A C
  have C0 := C
  obtain ⟨⟨hx, hb, hml, hown, hts⟩, h2, h3, h4, hK, hP, hD, hS, hA, hL, hg, hZ⟩ := C
  have ht := fun w (h : w ∈ r_W) => hts w (List.mem_cons_of_mem _ h)
  exact vk_getf hx hb (hZ.1.1 k hk).2.1 hS hown (ht _ hw) (fun _ z => z) hd (kk D cA ad p l e s m args below meth c H locs ls A C0)
theorem Ru_slen {k : Nat} (hk : k < 2) (hd : decode mt.2.1 pc = .ok (.arraylength, 1)) (kk : Ru d mt a (pc + 1) L (.int (nI (r_len.getD k 0)) :: st) G M Q) : Ru d mt a pc L (.ref (2000000 + k) :: st) G M Q := by
  intro D cA ad p l e s m args below meth c H locs ls A C
  have C0 := C
  obtain ⟨⟨hx, hb, hml, hown, hts⟩, h2, h3, h4, hK, hP, hD, hS, hA, hL, hg, hZ⟩ := C
  have ht := fun w (h : w ∈ r_W) => hts w (List.mem_cons_of_mem _ h)
  exact va_tlen hx hb (hZ.1.1 k hk).2.2.2 hS rfl hd (kk D cA ad p l e s m args below meth c H locs ls A C0)
theorem Ru_sbald {k j : Nat} (hk : k < 2) (hj : j < r_len.getD k 0) (hd : decode mt.2.1 pc = .ok (.baload, 1)) (kk : Ru d mt a (pc + 1) L (.int ((r_byt.getD k []).getD j 0) :: st) G M Q) : Ru d mt a pc L (.int (nI j) :: .ref (2000000 + k) :: st) G M Q := by
  intro D cA ad p l e s m args below meth c H locs ls A C
  have C0 := C
  obtain ⟨⟨hx, hb, hml, hown, hts⟩, h2, h3, h4, hK, hP, hD, hS, hA, hL, hg, hZ⟩ := C
  have ht := fun w (h : w ∈ r_W) => hts w (List.mem_cons_of_mem _ h)
  have hl := r_lenlt k hk
  refine va_tb hx hb (hZ.1.1 k hk).2.2.2 hS (vp_in_nI hj (by omega)) (v := .int ((r_byt.getD k []).getD j 0)) (by rw [nI_clamp (show j < 2 ^ 31 by omega)]) hd (kk D cA ad p l e s m args below meth c H locs ls A C0)
theorem Ru_ldcS {k idx : Nat} {tx : String} (hd : decode mt.2.1 pc = .ok (.ldc idx, 2)) (hc : mt.1.cls = RX8) (hk : (k = 0 ∧ idx = 36 ∧ tx = r_tx0) ∨ (k = 1 ∧ idx = 84 ∧ tx = r_tx1)) (kk : Ru d mt a (pc + 2) L (.ref (1000000 + k) :: st) G M Q) : Ru d mt a pc L st G M Q := by
  intro D cA ad p l e s m args below meth c H locs ls A C
  have C0 := C
  obtain ⟨⟨hx, hb, hml, hown, hts⟩, h2, h3, h4, hK, hP, hD, hS, hA, hL, hg, hZ⟩ := C
  have ht := fun w (h : w ∈ r_W) => hts w (List.mem_cons_of_mem _ h)
  rcases hk with ⟨rfl, rfl, rfl⟩ | ⟨rfl, rfl, rfl⟩
  · exact va_ldcS hx hb (own := RX8) (by rw [← hc]; exact hown) hZ.2.1 hd (kk D cA ad p l e s m args below meth c H locs ls A C0)
  · exact va_ldcS hx hb (own := RX8) (by rw [← hc]; exact hown) hZ.2.2.1 hd (kk D cA ad p l e s m args below meth c H locs ls A C0)
theorem Ru_nret {x : Int32} {ty : FieldType} (hd : decode mt.2.1 pc = .ok (.ireturn, 1)) (hr : mt.2.2.2 = some ty) (hle : a.2.1 ≤ a.1.1 ∧ a.2.2 ≤ a.1.2) (hn : narrow ty (.int x) = .int x) (hq : Q (some (.int x)) G M) : Ru d mt a pc L [.int x] G M Q := by
  intro D cA ad p l e s m args below meth c H locs ls A C
  obtain ⟨⟨hx, hb, hml, hown, hts⟩, h2, h3, h4, hK, hP, hD, hS, hA, hL, hg, hZ⟩ := C
  exact W.widen hle.1 hle.2 (W.zret hx hb (h3.trans hr) hn (fun t ht hW => ⟨⟨some (.int x), G, M, rfl, hq, by rw [ht]; exact hP, va_K.moved hW.alike hK, hD, by rw [ht]; exact hg⟩, hS.F ht⟩) hS.2.2 hd h2)
def r_sv (own : String) (idx : Nat) (mt' : Mt) (n : Nat) : Prop := r_mc own idx mt' n ∧ Cond.instanceMethod mt'.1 ∈ r_W ∧ Cond.selects mt'.1.cls mt'.1 mt'.1 ∈ r_W ∧ mt'.1.cls = "java/lang/String"
theorem Ru_callSV {d' idx n k : Nat} {mt' : Mt} {As : List Value} (hk : k < 2) (hd : decode mt.2.1 pc = .ok (.invokevirtual idx, 3)) (hm : r_sv mt.1.cls idx mt' n) (hdd : d' + 1 ≤ d) (hn : As.length = n) (hst : st = As.reverse ++ .ref (1000000 + k) :: rest) (hw : (rest.map fun v => v.category).sum ≤ 8) (hf : a.2.1 ≤ a.1.1 ∧ a.2.2 ≤ a.1.2)
    (kk : Ca d' mt' 0 0 (.ref (1000000 + k) :: As) G M (fun r G' M' => Ru d mt a (pc + 3) L (r_push r rest) G' M' Q)) : Ru d mt a pc L st G M Q := by
  subst hst
  intro D cA ad p l e s m args below meth c H locs ls A C
  have C0 := C
  obtain ⟨⟨hx, hb, hml, hown, hts⟩, h2, h3, h4, hK, hP, hD, hS, hA, hL, hg, hZ⟩ := C
  obtain ⟨⟨w1, w2, w3, w4, w5⟩, w6, w7, w8⟩ := hm
  have ht := fun w (h : w ∈ r_W) => hts w (List.mem_cons_of_mem _ h)
  have cb := callB_of (R := r_room d a.1.1 a.1.2) (own := mt.1.cls) (index := idx) (y := mt'.1) (bytes := mt'.2.1) (maxL := mt'.2.2.1) (ret := mt'.2.2.2) (rm := r_room d' 0 0) n hts (r_good w3) rfl rfl rfl (ht _ w2) (ht _ w1) w4 ⟨hdd, by show 8 + (mt'.2.2.1 + 11) + 48 * d' ≤ 48 * d; omega⟩
  have hrun := va_runV (e := e) (below := below) (meth := meth) (rest := rest.map (r_cv ad)) (As := As.map (r_cv ad)) (g := F0 m pc ls ((As.reverse ++ .ref (1000000 + k) :: rest).map (r_cv ad))) (locs := locs) ⟨hx, hb, hml, hown, hts⟩ (kk l D cA ad H.size) ⟨cb, ht _ w6, ht _ w7⟩
    ⟨r_pre_blind, by rw [w8]; exact vk_recv (i := k) (adK := fun k => ad (1000000 + k)) hZ.1 hk hS, fun U hU hW => ⟨rfl, by rw [hU], by rw [hU]; exact hP, va_K.moved hW.alike hK, hD.weaken (fun _ _ _ _ => trivial), hg, by rw [hU]; exact r_St.warm hW ((hZ.kept hS.2.1).narrow (r_fre hD hS hA))⟩⟩
    rfl (by rw [List.length_map]; exact hn) hL.1 (by simp [r_cv]) (lv_room (by rw [List.map_map]; exact Nat.le_trans (Nat.le_of_eq (by congr 1; apply List.map_congr_left; intro v _; exact r_cv_cat ad v)) hw)) hd hf
  exact r_after C0 hrun (fun r G' M' h => by rw [r_push_eq]; exact h)
end RS
theorem tw_258 : (Cond.methodLink "java/lang/String" (335 : Nat) ({ cls := "java/lang/String", name := "coder", desc := "()B" } : Jvm.MethodName)) ∈ r_W := r_W_of (List.mem_append_right _ (List.mem_of_getElem? (i := 258) (by decide +kernel))) (by decide +kernel)
theorem tw_259 : (Cond.instanceMethod ({ cls := "java/lang/String", name := "coder", desc := "()B" } : Jvm.MethodName)) ∈ r_W := r_W_of (List.mem_append_right _ (List.mem_of_getElem? (i := 259) (by decide +kernel))) (by decide +kernel)
theorem tw_260 : (Cond.selects "java/lang/String" ({ cls := "java/lang/String", name := "coder", desc := "()B" } : Jvm.MethodName) ({ cls := "java/lang/String", name := "coder", desc := "()B" } : Jvm.MethodName)) ∈ r_W := r_W_of (List.mem_append_right _ (List.mem_of_getElem? (i := 260) (by decide +kernel))) (by decide +kernel)
theorem sv_coder : r_sv "java/lang/String" 335 mt_J0_coder_7d493 0 := ⟨⟨tw_258, mf_J0_coder_7d493⟩, tw_259, tw_260, rfl⟩
theorem tw_268 : (Cond.methodLink "java/lang/String" (492 : Nat) ({ cls := "java/lang/String", name := "isLatin1", desc := "()Z" } : Jvm.MethodName)) ∈ r_W := r_W_of (List.mem_append_right _ (List.mem_of_getElem? (i := 268) (by decide +kernel))) (by decide +kernel)
theorem tw_269 : (Cond.instanceMethod ({ cls := "java/lang/String", name := "isLatin1", desc := "()Z" } : Jvm.MethodName)) ∈ r_W := r_W_of (List.mem_append_right _ (List.mem_of_getElem? (i := 269) (by decide +kernel))) (by decide +kernel)
theorem tw_270 : (Cond.selects "java/lang/String" ({ cls := "java/lang/String", name := "isLatin1", desc := "()Z" } : Jvm.MethodName) ({ cls := "java/lang/String", name := "isLatin1", desc := "()Z" } : Jvm.MethodName)) ∈ r_W := r_W_of (List.mem_append_right _ (List.mem_of_getElem? (i := 270) (by decide +kernel))) (by decide +kernel)
theorem sv_isLatin1 : r_sv "java/lang/String" 492 mt_J0_isLatin1_aae02 0 := ⟨⟨tw_268, mf_J0_isLatin1_aae02⟩, tw_269, tw_270, rfl⟩
theorem tw_714 : (Cond.methodLink "java/lang/String" (505 : Nat) ({ cls := "java/lang/String", name := "length", desc := "()I" } : Jvm.MethodName)) ∈ r_W := r_W_of (List.mem_append_right _ (List.mem_of_getElem? (i := 714) (by decide +kernel))) (by decide +kernel)
theorem tw_255 : (Cond.instanceMethod ({ cls := "java/lang/String", name := "length", desc := "()I" } : Jvm.MethodName)) ∈ r_W := r_W_of (List.mem_append_right _ (List.mem_of_getElem? (i := 255) (by decide +kernel))) (by decide +kernel)
theorem tw_256 : (Cond.selects "java/lang/String" ({ cls := "java/lang/String", name := "length", desc := "()I" } : Jvm.MethodName) ({ cls := "java/lang/String", name := "length", desc := "()I" } : Jvm.MethodName)) ∈ r_W := r_W_of (List.mem_append_right _ (List.mem_of_getElem? (i := 256) (by decide +kernel))) (by decide +kernel)
theorem sv_length : r_sv "java/lang/String" 505 mt_J0_length_8abf5 0 := ⟨⟨tw_714, mf_J0_length_8abf5⟩, tw_255, tw_256, rfl⟩
theorem tw_710 : (Cond.methodLink "java/lang/String" (633 : Nat) ({ cls := "java/lang/String", name := "indexOf", desc := "(II)I" } : Jvm.MethodName)) ∈ r_W := r_W_of (List.mem_append_right _ (List.mem_of_getElem? (i := 710) (by decide +kernel))) (by decide +kernel)
theorem tw_711 : (Cond.instanceMethod ({ cls := "java/lang/String", name := "indexOf", desc := "(II)I" } : Jvm.MethodName)) ∈ r_W := r_W_of (List.mem_append_right _ (List.mem_of_getElem? (i := 711) (by decide +kernel))) (by decide +kernel)
theorem tw_712 : (Cond.selects "java/lang/String" ({ cls := "java/lang/String", name := "indexOf", desc := "(II)I" } : Jvm.MethodName) ({ cls := "java/lang/String", name := "indexOf", desc := "(II)I" } : Jvm.MethodName)) ∈ r_W := r_W_of (List.mem_append_right _ (List.mem_of_getElem? (i := 712) (by decide +kernel))) (by decide +kernel)
theorem sv_indexOf2 : r_sv "java/lang/String" 633 mt_J0_indexOf_7cf53 2 := ⟨⟨tw_710, mf_J0_indexOf_7cf53⟩, tw_711, tw_712, rfl⟩
theorem tw_254 : (Cond.methodLink "OverNight$Tokens" (38 : Nat) ({ cls := "java/lang/String", name := "length", desc := "()I" } : Jvm.MethodName)) ∈ r_W := r_W_of (List.mem_append_right _ (List.mem_of_getElem? (i := 254) (by decide +kernel))) (by decide +kernel)
theorem sv_T38 : r_sv "OverNight$Tokens" 38 mt_J0_length_8abf5 0 := ⟨⟨tw_254, mf_J0_length_8abf5⟩, tw_255, tw_256, rfl⟩
theorem tw_264 : (Cond.methodLink "OverNight$Tokens" (44 : Nat) ({ cls := "java/lang/String", name := "charAt", desc := "(I)C" } : Jvm.MethodName)) ∈ r_W := r_W_of (List.mem_append_right _ (List.mem_of_getElem? (i := 264) (by decide +kernel))) (by decide +kernel)
theorem tw_265 : (Cond.instanceMethod ({ cls := "java/lang/String", name := "charAt", desc := "(I)C" } : Jvm.MethodName)) ∈ r_W := r_W_of (List.mem_append_right _ (List.mem_of_getElem? (i := 265) (by decide +kernel))) (by decide +kernel)
theorem tw_266 : (Cond.selects "java/lang/String" ({ cls := "java/lang/String", name := "charAt", desc := "(I)C" } : Jvm.MethodName) ({ cls := "java/lang/String", name := "charAt", desc := "(I)C" } : Jvm.MethodName)) ∈ r_W := r_W_of (List.mem_append_right _ (List.mem_of_getElem? (i := 266) (by decide +kernel))) (by decide +kernel)
theorem sv_T44 : r_sv "OverNight$Tokens" 44 mt_J0_charAt_5068e 1 := ⟨⟨tw_264, mf_J0_charAt_5068e⟩, tw_265, tw_266, rfl⟩
theorem tw_706 : (Cond.methodLink "OverNight$Tokens" (86 : Nat) ({ cls := "java/lang/String", name := "indexOf", desc := "(I)I" } : Jvm.MethodName)) ∈ r_W := r_W_of (List.mem_append_right _ (List.mem_of_getElem? (i := 706) (by decide +kernel))) (by decide +kernel)
theorem tw_707 : (Cond.instanceMethod ({ cls := "java/lang/String", name := "indexOf", desc := "(I)I" } : Jvm.MethodName)) ∈ r_W := r_W_of (List.mem_append_right _ (List.mem_of_getElem? (i := 707) (by decide +kernel))) (by decide +kernel)
theorem tw_708 : (Cond.selects "java/lang/String" ({ cls := "java/lang/String", name := "indexOf", desc := "(I)I" } : Jvm.MethodName) ({ cls := "java/lang/String", name := "indexOf", desc := "(I)I" } : Jvm.MethodName)) ∈ r_W := r_W_of (List.mem_append_right _ (List.mem_of_getElem? (i := 708) (by decide +kernel))) (by decide +kernel)
theorem sv_T86 : r_sv "OverNight$Tokens" 86 mt_J0_indexOf_0f7a4 1 := ⟨⟨tw_706, mf_J0_indexOf_0f7a4⟩, tw_707, tw_708, rfl⟩
theorem tw_272 : (Cond.methodLink "java/lang/String" (495 : Nat) ({ cls := "java/lang/StringLatin1", name := "charAt", desc := "([BI)C" } : Jvm.MethodName)) ∈ r_W := r_W_of (List.mem_append_right _ (List.mem_of_getElem? (i := 272) (by decide +kernel))) (by decide +kernel)
theorem tw_273 : (Cond.static ({ cls := "java/lang/StringLatin1", name := "charAt", desc := "([BI)C" } : Jvm.MethodName)) ∈ r_W := r_W_of (List.mem_append_right _ (List.mem_of_getElem? (i := 273) (by decide +kernel))) (by decide +kernel)
theorem ss_charAt : r_ms "java/lang/String" 495 mt_J1_charAt_3b067 2 := ⟨⟨tw_272, mf_J1_charAt_3b067⟩, tw_273⟩
theorem tw_275 : (Cond.methodLink "java/lang/StringLatin1" (9 : Nat) ({ cls := "java/lang/String", name := "checkIndex", desc := "(II)V" } : Jvm.MethodName)) ∈ r_W := r_W_of (List.mem_append_right _ (List.mem_of_getElem? (i := 275) (by decide +kernel))) (by decide +kernel)
theorem tw_276 : (Cond.static ({ cls := "java/lang/String", name := "checkIndex", desc := "(II)V" } : Jvm.MethodName)) ∈ r_W := r_W_of (List.mem_append_right _ (List.mem_of_getElem? (i := 276) (by decide +kernel))) (by decide +kernel)
theorem ss_checkIndex : r_ms "java/lang/StringLatin1" 9 mt_J0_checkIndex_df160 2 := ⟨⟨tw_275, mf_J0_checkIndex_df160⟩, tw_276⟩
theorem tw_280 : (Cond.methodLink "java/lang/String" (1059 : Nat) ({ cls := "jdk/internal/util/Preconditions", name := "checkIndex", desc := "(IILjava/util/function/BiFunction;)I" } : Jvm.MethodName)) ∈ r_W := r_W_of (List.mem_append_right _ (List.mem_of_getElem? (i := 280) (by decide +kernel))) (by decide +kernel)
theorem tw_281 : (Cond.static ({ cls := "jdk/internal/util/Preconditions", name := "checkIndex", desc := "(IILjava/util/function/BiFunction;)I" } : Jvm.MethodName)) ∈ r_W := r_W_of (List.mem_append_right _ (List.mem_of_getElem? (i := 281) (by decide +kernel))) (by decide +kernel)
theorem ss_pre : r_ms "java/lang/String" 1059 mt_J3_checkIndex_8e157 3 := ⟨⟨tw_280, mf_J3_checkIndex_8e157⟩, tw_281⟩
theorem tw_715 : (Cond.methodLink "java/lang/String" (637 : Nat) ({ cls := "java/lang/StringLatin1", name := "indexOf", desc := "([BIII)I" } : Jvm.MethodName)) ∈ r_W := r_W_of (List.mem_append_right _ (List.mem_of_getElem? (i := 715) (by decide +kernel))) (by decide +kernel)
theorem tw_716 : (Cond.static ({ cls := "java/lang/StringLatin1", name := "indexOf", desc := "([BIII)I" } : Jvm.MethodName)) ∈ r_W := r_W_of (List.mem_append_right _ (List.mem_of_getElem? (i := 716) (by decide +kernel))) (by decide +kernel)
theorem ss_idx : r_ms "java/lang/String" 637 mt_J1_indexOf_4cfef 4 := ⟨⟨tw_715, mf_J1_indexOf_4cfef⟩, tw_716⟩
theorem tw_718 : (Cond.methodLink "java/lang/StringLatin1" (88 : Nat) ({ cls := "java/lang/StringLatin1", name := "canEncode", desc := "(I)Z" } : Jvm.MethodName)) ∈ r_W := r_W_of (List.mem_append_right _ (List.mem_of_getElem? (i := 718) (by decide +kernel))) (by decide +kernel)
theorem tw_719 : (Cond.static ({ cls := "java/lang/StringLatin1", name := "canEncode", desc := "(I)Z" } : Jvm.MethodName)) ∈ r_W := r_W_of (List.mem_append_right _ (List.mem_of_getElem? (i := 719) (by decide +kernel))) (by decide +kernel)
theorem ss_can : r_ms "java/lang/StringLatin1" 88 mt_J1_canEncode_9a6ad 1 := ⟨⟨tw_718, mf_J1_canEncode_9a6ad⟩, tw_719⟩
theorem tw_721 : (Cond.methodLink "java/lang/StringLatin1" (92 : Nat) ({ cls := "java/lang/Math", name := "max", desc := "(II)I" } : Jvm.MethodName)) ∈ r_W := r_W_of (List.mem_append_right _ (List.mem_of_getElem? (i := 721) (by decide +kernel))) (by decide +kernel)
theorem ss_max : r_ms "java/lang/StringLatin1" 92 mt_J9_max_7cf53 2 := ⟨⟨tw_721, mf_J9_max_7cf53⟩, tw_722⟩
theorem tw_724 : (Cond.methodLink "java/lang/StringLatin1" (38 : Nat) ({ cls := "java/lang/Math", name := "min", desc := "(II)I" } : Jvm.MethodName)) ∈ r_W := r_W_of (List.mem_append_right _ (List.mem_of_getElem? (i := 724) (by decide +kernel))) (by decide +kernel)
theorem ss_min : r_ms "java/lang/StringLatin1" 38 mt_J9_min_7cf53 2 := ⟨⟨tw_724, mf_J9_min_7cf53⟩, tw_46⟩
theorem tw_725 : (Cond.methodLink "java/lang/StringLatin1" (95 : Nat) ({ cls := "java/lang/StringLatin1", name := "indexOfChar", desc := "([BIII)I" } : Jvm.MethodName)) ∈ r_W := r_W_of (List.mem_append_right _ (List.mem_of_getElem? (i := 725) (by decide +kernel))) (by decide +kernel)
theorem tw_726 : (Cond.static ({ cls := "java/lang/StringLatin1", name := "indexOfChar", desc := "([BIII)I" } : Jvm.MethodName)) ∈ r_W := r_W_of (List.mem_append_right _ (List.mem_of_getElem? (i := 726) (by decide +kernel))) (by decide +kernel)
theorem ss_ioc : r_ms "java/lang/StringLatin1" 95 mt_J1_indexOfChar_4cfef 4 := ⟨⟨tw_725, mf_J1_indexOfChar_4cfef⟩, tw_726⟩
theorem tw_262 : (Cond.fieldLink "java/lang/String" (38 : Nat) "java/lang/String" "COMPACT_STRINGS" "Z") ∈ r_W := r_W_of (List.mem_append_right _ (List.mem_of_getElem? (i := 262) (by decide +kernel))) (by decide +kernel)
theorem tw_2183 : (Cond.fieldLink "java/lang/String" (9 : Nat) "java/lang/String" "value" "[B") ∈ r_W := r_W_of (List.mem_append_right _ (List.mem_of_getElem? (i := 2183) (by decide +kernel))) (by decide +kernel)
theorem tw_2184 : (Cond.fieldLink "java/lang/String" (15 : Nat) "java/lang/String" "coder" "B") ∈ r_W := r_W_of (List.mem_append_right _ (List.mem_of_getElem? (i := 2184) (by decide +kernel))) (by decide +kernel)
theorem tw_278 : (Cond.fieldLink "java/lang/String" (1053 : Nat) "jdk/internal/util/Preconditions" "SIOOBE_FORMATTER" "Ljava/util/function/BiFunction;") ∈ r_W := r_W_of (List.mem_append_right _ (List.mem_of_getElem? (i := 278) (by decide +kernel))) (by decide +kernel)
theorem c_coder {k : Nat} {G : Wd} {M : Mem} {Q : Rq} (hk : k < 2) (kk : Q (some (.int 0)) G M) : Ca 0 mt_J0_coder_7d493 0 0 [.ref (1000000 + k)] G M Q := by
  refine Ca_ofF (by decide +kernel) (Nat.le_of_ble_eq_true rfl) ?_
  refine Ru_getsZ (pc := 0) dJ0_coder_7d493_0 tw_262 ?_
  refine Ru_if_eq (pc := 3) 13 dJ0_coder_7d493_3 (by decide) (fun h => absurd h (by decide)) (fun h => ?_)
  refine Ru_aload_n (pc := 6) dJ0_coder_7d493_6 rfl rfl ?_
  refine Ru_scod (pc := 7) hk dJ0_coder_7d493_7 tw_2184 ?_
  refine Ru_goto (pc := 10) 14 dJ0_coder_7d493_10 (by decide) ?_
  exact Ru_nret (pc := 14) dJ0_coder_7d493_14 rfl ⟨Nat.le_refl _, Nat.le_refl _⟩ rfl kk
theorem c_isLatin1 {k : Nat} {G : Wd} {M : Mem} {Q : Rq} (hk : k < 2) (kk : Q (some (.int (nI 1))) G M) : Ca 0 mt_J0_isLatin1_aae02 0 0 [.ref (1000000 + k)] G M Q := by
  refine Ca_ofF (by decide +kernel) (Nat.le_of_ble_eq_true rfl) ?_
  refine Ru_getsZ (pc := 0) dJ0_isLatin1_aae02_0 tw_262 ?_
  refine Ru_if_eq (pc := 3) 17 dJ0_isLatin1_aae02_3 (by decide) (fun h => absurd h (by decide)) (fun h => ?_)
  refine Ru_aload_n (pc := 6) dJ0_isLatin1_aae02_6 rfl rfl ?_
  refine Ru_scod (pc := 7) hk dJ0_isLatin1_aae02_7 tw_2184 ?_
  refine Ru_if_ne (pc := 10) 17 dJ0_isLatin1_aae02_10 (by decide) (fun h => absurd rfl h) (fun h => ?_)
  refine Ru_iconst (pc := 13) (nI 1) dJ0_isLatin1_aae02_13 rfl ?_
  refine Ru_goto (pc := 14) 18 dJ0_isLatin1_aae02_14 (by decide) ?_
  exact Ru_zret (pc := 18) dJ0_isLatin1_aae02_18 rfl ⟨Nat.le_refl _, Nat.le_refl _⟩ (Or.inr rfl) kk
theorem c_slength {k : Nat} {G : Wd} {M : Mem} {Q : Rq} (hk : k < 2) (kk : Q (some (.int (nI (r_len.getD k 0)))) G M) : Ca 1 mt_J0_length_8abf5 0 0 [.ref (1000000 + k)] G M Q := by
  refine Ca_ofF (by decide +kernel) (Nat.le_of_ble_eq_true rfl) ?_
  refine Ru_aload_n (pc := 0) dJ0_length_8abf5_0 rfl rfl ?_
  refine Ru_sval (pc := 1) hk dJ0_length_8abf5_1 tw_2183 ?_
  refine Ru_slen (pc := 4) hk dJ0_length_8abf5_4 ?_
  refine Ru_aload_n (pc := 5) dJ0_length_8abf5_5 rfl rfl ?_
  refine Ru_callSV (pc := 6) (As := []) (d' := 0) hk dJ0_length_8abf5_6 sv_coder (by decide) rfl rfl (Nat.le_of_ble_eq_true rfl) ⟨Nat.le_refl _, Nat.le_refl _⟩ ?_
  refine c_coder hk ?_
  refine Ru_ishr' (pc := 9) (nI (r_len.getD k 0)) dJ0_length_8abf5_9 (sb_shr0 _) ?_
  exact Ru_iret (pc := 10) dJ0_length_8abf5_10 rfl ⟨Nat.le_refl _, Nat.le_refl _⟩ kk
theorem c_preIndex {i n : Nat} {G : Wd} {M : Mem} {Q : Rq} (hi : i < n ∧ n < 2147483648) (kk : Q (some (.int (nI i))) G M) : Ca 0 mt_J3_checkIndex_8e157 0 0 [.int (nI i), .int (nI n), .retAddr 0] G M Q := by
  refine Ca_ofF (by decide +kernel) (Nat.le_of_ble_eq_true rfl) ?_
  refine Ru_iload_n (pc := 0) dJ3_checkIndex_8e157_0 rfl rfl ?_
  refine Ru_if_ltN (pc := 1) dJ3_checkIndex_8e157_1 (by omega) ?_ (tgt := 9) (by decide)
  refine Ru_iload_n (pc := 4) dJ3_checkIndex_8e157_4 rfl rfl ?_
  refine Ru_iload_n (pc := 5) dJ3_checkIndex_8e157_5 rfl rfl ?_
  refine Ru_icmp_ltN (pc := 6) 16 dJ3_checkIndex_8e157_6 (by decide) (by omega) (fun h => ?_) (fun h => absurd h (by omega))
  refine Ru_iload_n (pc := 16) dJ3_checkIndex_8e157_16 rfl rfl ?_
  exact Ru_iret (pc := 17) dJ3_checkIndex_8e157_17 rfl ⟨Nat.le_refl _, Nat.le_refl _⟩ kk
theorem c_checkIndex {i n : Nat} {G : Wd} {M : Mem} {Q : Rq} (hi : i < n ∧ n < 2147483648) (kk : Q none G M) : Ca 1 mt_J0_checkIndex_df160 0 0 [.int (nI i), .int (nI n)] G M Q := by
  refine Ca_ofF (by decide +kernel) (Nat.le_of_ble_eq_true rfl) ?_
  refine Ru_iload_n (pc := 0) dJ0_checkIndex_df160_0 rfl rfl ?_
  refine Ru_iload_n (pc := 1) dJ0_checkIndex_df160_1 rfl rfl ?_
  refine Ru_getsF (pc := 2) dJ0_checkIndex_df160_2 tw_278 ?_
  refine Ru_csG (pc := 5) (As := [.int (nI i), .int (nI n), .retAddr 0]) (d' := 0) dJ0_checkIndex_df160_5 ss_pre (by decide) rfl rfl (Nat.le_of_ble_eq_true rfl) ⟨Nat.le_refl _, Nat.le_refl _⟩ ?_
  refine c_preIndex hi ?_
  refine Ru_pop (pc := 8) dJ0_checkIndex_df160_8 rfl ?_
  exact Ru_vret (pc := 9) dJ0_checkIndex_df160_9 rfl ⟨Nat.le_refl _, Nat.le_refl _⟩ kk
theorem c_l1charAt {k j : Nat} {G : Wd} {M : Mem} {Q : Rq} (hk : k < 2) (hj : j < r_len.getD k 0) (kk : Q (some (.int (nI (r_cd k j)))) G M) : Ca 2 mt_J1_charAt_3b067 0 0 [.ref (2000000 + k), .int (nI j)] G M Q := by
  have hl := r_lenlt k hk
  obtain ⟨h1, h2, h3⟩ := r_cd_ok k hk j hj
  refine Ca_ofF (by decide +kernel) (Nat.le_of_ble_eq_true rfl) ?_
  refine Ru_iload_n (pc := 0) dJ1_charAt_3b067_0 rfl rfl ?_
  refine Ru_aload_n (pc := 1) dJ1_charAt_3b067_1 rfl rfl ?_
  refine Ru_slen (pc := 2) hk dJ1_charAt_3b067_2 ?_
  refine Ru_csG (pc := 3) (As := [.int (nI j), .int (nI (r_len.getD k 0))]) (d' := 1) dJ1_charAt_3b067_3 ss_checkIndex (by decide) rfl rfl (Nat.le_of_ble_eq_true rfl) ⟨Nat.le_refl _, Nat.le_refl _⟩ ?_
  refine c_checkIndex ⟨hj, by omega⟩ ?_
  refine Ru_aload_n (pc := 6) dJ1_charAt_3b067_6 rfl rfl ?_
  refine Ru_iload_n (pc := 7) dJ1_charAt_3b067_7 rfl rfl ?_
  refine Ru_sbald (pc := 8) hk hj dJ1_charAt_3b067_8 ?_
  refine Ru_sipush (pc := 9) 255 dJ1_charAt_3b067_9 rfl ?_
  refine Ru_iand (pc := 12) dJ1_charAt_3b067_12 ?_
  refine Ru_i2c (pc := 13) _ dJ1_charAt_3b067_13 h1 ?_
  exact Ru_nret (pc := 14) dJ1_charAt_3b067_14 rfl ⟨Nat.le_refl _, Nat.le_refl _⟩ (pk_charN (by omega)).1 kk
theorem c_charAt {k j : Nat} {G : Wd} {M : Mem} {Q : Rq} (hk : k < 2) (hj : j < r_len.getD k 0) (kk : Q (some (.int (nI (r_cd k j)))) G M) : Ca 3 mt_J0_charAt_5068e 0 0 [.ref (1000000 + k), .int (nI j)] G M Q := by
  obtain ⟨h1, h2, h3⟩ := r_cd_ok k hk j hj
  refine Ca_ofF (by decide +kernel) (Nat.le_of_ble_eq_true rfl) ?_
  refine Ru_aload_n (pc := 0) dJ0_charAt_5068e_0 rfl rfl ?_
  refine Ru_callSV (pc := 1) (As := []) (d' := 0) hk dJ0_charAt_5068e_1 sv_isLatin1 (by decide) rfl rfl (Nat.le_of_ble_eq_true rfl) ⟨Nat.le_refl _, Nat.le_refl _⟩ ?_
  refine c_isLatin1 hk ?_
  refine Ru_if_eq (pc := 4) 16 dJ0_charAt_5068e_4 (by decide) (fun h => absurd h (by decide)) (fun h => ?_)
  refine Ru_aload_n (pc := 7) dJ0_charAt_5068e_7 rfl rfl ?_
  refine Ru_sval (pc := 8) hk dJ0_charAt_5068e_8 tw_2183 ?_
  refine Ru_iload_n (pc := 11) dJ0_charAt_5068e_11 rfl rfl ?_
  refine Ru_csG (pc := 12) (As := [.ref (2000000 + k), .int (nI j)]) (d' := 2) dJ0_charAt_5068e_12 ss_charAt (by decide) rfl rfl (Nat.le_of_ble_eq_true rfl) ⟨Nat.le_refl _, Nat.le_refl _⟩ ?_
  refine c_l1charAt hk hj ?_
  exact Ru_nret (pc := 15) dJ0_charAt_5068e_15 rfl ⟨Nat.le_refl _, Nat.le_refl _⟩ (pk_charN (by omega)).1 kk
