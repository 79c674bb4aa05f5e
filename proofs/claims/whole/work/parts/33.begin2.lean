def lw_ad (base : Nat) (adK adV : Nat → Nat) (z : Nat) (o : Nat) : Nat := if o < 1000 then base + o else if o < 2000000 then adK (o - 1000000) else if o < 3000000 then adV (o - 2000000) else z
theorem lw_ad_lo {base : Nat} {adK adV : Nat → Nat} {z o : Nat} (h : o < 1000) : lw_ad base adK adV z o = base + o := if_pos h
theorem lw_ad_K {base : Nat} {adK adV : Nat → Nat} {z k : Nat} (h : k < 1000000) : lw_ad base adK adV z (1000000 + k) = adK k := by
  unfold lw_ad
  rw [if_neg (by omega), if_pos (by omega), Nat.add_sub_cancel_left]
theorem lw_ad_V {base : Nat} {adK adV : Nat → Nat} {z k : Nat} (h : k < 1000000) : lw_ad base adK adV z (2000000 + k) = adV k := by
  unfold lw_ad
  rw [if_neg (by omega), if_neg (by omega), if_pos (by omega), Nat.add_sub_cancel_left]
theorem lw_ad_z {base : Nat} {adK adV : Nat → Nat} {z : Nat} : lw_ad base adK adV z 3000000 = z := by
  unfold lw_ad
  rw [if_neg (by omega), if_neg (by omega), if_neg (by omega)]
theorem lw_vkS {N : Nat} {len : List Nat} {byt : List (List Int32)} {a1 a2 b1 b2 : Nat → Nat} {A : Nat → Prop} {U : State} {H : Heap} (h : vk_S N len byt a1 a2 A U H) (h1 : ∀ i, i < N → b1 i = a1 i) (h2 : ∀ i, i < N → b2 i = a2 i) : vk_S N len byt b1 b2 A U H := by
  refine ⟨fun i hi => ?_, fun i j hi hj e => ?_⟩
  · rw [h1 i hi, h2 i hi]
    exact h.1 i hi
  · rw [h1 i hi, h1 j hj] at e
    exact h.2 i j hi hj e
def lw_tm (i : Nat) : Term := if i = 0 then .string RX8 36 else .string RX8 84
def lw_nw : Cond := Jvm.Cond.and given_1 narrow_1
set_option maxRecDepth 100000 in
theorem lw_n1 : ∀ i : Nat, i < 2 → Cond.exactly (lw_tm i) "java/lang/String" ∈ flatC lw_nw := by decide +kernel
set_option maxRecDepth 100000 in
theorem lw_n2 : ∀ i : Nat, i < 2 → Cond.eq (.field (lw_tm i) "java/lang/String" "coder" "B") (.int 0) ∈ flatC lw_nw := by decide +kernel
set_option maxRecDepth 100000 in
theorem lw_n3 : ∀ i : Nat, i < 2 → Cond.arrayOf (.field (lw_tm i) "java/lang/String" "value" "[B") .byte ∈ flatC lw_nw := by decide +kernel
set_option maxRecDepth 100000 in
theorem lw_n4 : ∀ i : Nat, i < 2 → Cond.eq (.length (.field (lw_tm i) "java/lang/String" "value" "[B")) (.int (Int32.ofNat (r_len.getD i 0))) ∈ flatC lw_nw := by decide +kernel
set_option maxRecDepth 100000 in
theorem lw_n5 : ∀ i : Nat, i < 2 → ∀ j : Nat, j < r_len.getD i 0 → Cond.eq (.elem (.field (lw_tm i) "java/lang/String" "value" "[B") (.int (Int32.ofNat j))) (.int ((r_byt.getD i []).getD j 0)) ∈ flatC lw_nw := by decide +kernel
def lw_zv (z : Nat) : Value := match z with
  | 0 => .null
  | n + 1 => .ref n
theorem lw_zv_eq {ad : Nat → Nat} : r_cv ad (.retAddr 0) = lw_zv (ad 3000000) := by
  unfold r_cv lw_zv
  rfl
theorem lw_strs {s : State} {args : Array Value} (hts : ∀ w ∈ lw_tbl, w.before args s = true) (hg : lw_nw.before args s = true) : ∃ (adK adV : Nat → Nat) (z : Nat), ∀ base, r_St (lw_ad base adK adV z) (fun q => s.heap.size ≤ q) s s.heap := by
  have hs := flat_of_before _ hg
  have hA : ∀ a : Nat, a < s.heap.size → ¬ (fun q => s.heap.size ≤ q) a := fun a h1 h2 => absurd h1 (Nat.not_lt.mpr h2)
  obtain ⟨adK, adV, hS, hev⟩ := vk_Sof (args := args) (s := s) (N := 2) (tm := lw_tm) (len := r_len) (byt := r_byt) (A := fun q => s.heap.size ≤ q) (by decide)
    (fun i hi => hs _ (lw_n1 i hi)) (fun i hi => hs _ (lw_n2 i hi)) (fun i hi => hs _ (lw_n3 i hi)) (fun i hi => hs _ (lw_n4 i hi)) (fun i hi j hj => hs _ (lw_n5 i hi j hj)) (fun i j hi hj hij => by
      have h0 : (Cond.not (Cond.eq (lw_tm 0) (lw_tm 1))).before args s = true := hs _ (by decide +kernel)
      have hc : (i = 0 ∧ j = 1) ∨ (i = 1 ∧ j = 0) := by omega
      rcases hc with ⟨rfl, rfl⟩ | ⟨rfl, rfl⟩
      · exact Or.inl h0
      · exact Or.inr h0) hA
  have hcs : va_Z "java/lang/String" "COMPACT_STRINGS" "Z" (.int 1) (fun q => s.heap.size ≤ q) s s.heap := va_Zof (args := args) (hts _ (by decide +kernel)) (hts _ (by decide +kernel)) (va_eqt (hs _ (by decide +kernel))) hA
  have hsi : va_Zq "jdk/internal/util/Preconditions" "SIOOBE_FORMATTER" "Ljava/util/function/BiFunction;" (fun q => s.heap.size ≤ q) s s.heap := va_Zqof (args := args) (hts _ (by decide +kernel)) (hts _ (by decide +kernel)) (hs _ (by decide +kernel)) hA
  have hr : ∀ z, va_Z "jdk/internal/util/Preconditions" "SIOOBE_FORMATTER" "Ljava/util/function/BiFunction;" (lw_zv z) (fun q => s.heap.size ≤ q) s s.heap → ∀ base, r_St (lw_ad base adK adV z) (fun q => s.heap.size ≤ q) s s.heap := by
    intro z hz base
    refine ⟨lw_vkS hS (fun i hi => lw_ad_K (by omega)) (fun i hi => lw_ad_V (by omega)), ?_, ?_, hcs, ?_, lw_nest hts⟩
    · show vk_R RX8 36 r_tx0 (lw_ad base adK adV z (1000000 + 0)) s
      rw [lw_ad_K (by omega)]
      exact vk_R.of (A := args) (hts _ (by decide +kernel)) (hev 0 (by decide))
    · show vk_R RX8 84 r_tx1 (lw_ad base adK adV z (1000000 + 1)) s
      rw [lw_ad_K (by omega)]
      exact vk_R.of (A := args) (hts _ (by decide +kernel)) (hev 1 (by decide))
    · rw [lw_zv_eq, lw_ad_z]
      exact hz
  rcases hsi with h | ⟨t, h⟩
  · exact ⟨adK, adV, 0, hr 0 h⟩
  · exact ⟨adK, adV, t + 1, hr (t + 1) h⟩
