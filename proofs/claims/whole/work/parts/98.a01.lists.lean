-- WHICH CHOICES ARE LISTED
def qMt (d : Td) (s r as wo : Nat) : Nat := orB (fun k => decide (((nS d s r k >>> as) ^^^ nS d s r k) &&& wo ≠ 0)) (d 0)
def qW (d : Td) (s r : Nat) : Nat := qMt d s r 1 85 &&& bt (fun i => d (5 + i)) 8
def qH (d : Td) (s r : Nat) : Nat := if twAw d = true then qMt d s r 2 51 else 0
def qS (d : Td) (s r : Nat) : Nat := qMt d s r 4 15 &&& bt (fun i => d (13 + i)) 8
def qIs (a w : Nat) : Bool := mayB a (fun _ => true) w
abbrev Tp : Type := Nat × Nat × Nat
def q3 (d : Td) (s r w h : Nat) (c : List Tp) : Nat → List Tp
  | 0 => c
  | n + 1 => if qIs (qS d s r) n = true then q3 d s r w h c n ++ [(w, h, n)] else q3 d s r w h c n
def q2 (d : Td) (s r w : Nat) (c : List Tp) : Nat → List Tp
  | 0 => c
  | n + 1 => if qIs (qH d s r) n = true then q3 d s r w n (q2 d s r w c n) (d 0 + 1) else q2 d s r w c n
def q1 (d : Td) (s r : Nat) : Nat → List Tp
  | 0 => []
  | n + 1 => if qIs (qW d s r) n = true then q2 d s r n (q1 d s r n) (d 0 + 1) else q1 d s r n
def qL (d : Td) (s r : Nat) : List Tp := q1 d s r (d 0 + 1)
theorem q3_len (d : Td) (s r w h : Nat) (c : List Tp) : ∀ n, (q3 d s r w h c n).length ≤ c.length + n
  | 0 => Nat.le_refl _
  | n + 1 => by
    have := q3_len d s r w h c n
    rw [q3]
    split
    · rw [List.length_append]
      simp
      omega
    · omega
theorem q2_len {d : Td} (hd : d 0 ≤ 8) (s r w : Nat) (c : List Tp) : ∀ n, (q2 d s r w c n).length ≤ c.length + 9 * n
  | 0 => Nat.le_refl _
  | n + 1 => by
    have := q2_len hd s r w c n
    have := q3_len d s r w n (q2 d s r w c n) (d 0 + 1)
    rw [q2]
    split <;> omega
theorem q1_len {d : Td} (hd : d 0 ≤ 8) (s r : Nat) : ∀ n, (q1 d s r n).length ≤ 81 * n
  | 0 => Nat.le_refl _
  | n + 1 => by
    have := q1_len hd s r n
    have := q2_len hd s r n (q1 d s r n) (d 0 + 1)
    rw [q1]
    split <;> omega
theorem q3_mem (d : Td) (s r w h : Nat) (c : List Tp) (x : Tp) : ∀ n, x ∈ q3 d s r w h c n ↔ x ∈ c ∨ ∃ v, v < n ∧ qIs (qS d s r) v = true ∧ x = (w, h, v)
  | 0 => ⟨fun q => Or.inl q, fun q => by
      rcases q with q | ⟨v, hv, _⟩
      · exact q
      · omega⟩
  | n + 1 => by
    have ih := q3_mem d s r w h c x n
    rw [q3]
    split
    · rename_i hq
      rw [List.mem_append, ih]
      constructor
      · rintro ((q | ⟨v, a, b, e⟩) | q)
        · exact Or.inl q
        · exact Or.inr ⟨v, by omega, b, e⟩
        · exact Or.inr ⟨n, by omega, hq, by simpa using q⟩
      · rintro (q | ⟨v, a, b, e⟩)
        · exact Or.inl (Or.inl q)
        · by_cases ev : v = n
          · subst ev
            right
            rw [e]
            exact List.mem_cons_self ..
          · exact Or.inl (Or.inr ⟨v, by omega, b, e⟩)
    · rename_i hq
      rw [ih]
      constructor
      · rintro (q | ⟨v, a, b, e⟩)
        · exact Or.inl q
        · exact Or.inr ⟨v, by omega, b, e⟩
      · rintro (q | ⟨v, a, b, e⟩)
        · exact Or.inl q
        · by_cases ev : v = n
          · subst ev
            exact absurd b hq
          · exact Or.inr ⟨v, by omega, b, e⟩
theorem q2_mem (d : Td) (s r w : Nat) (c : List Tp) (x : Tp) : ∀ n, x ∈ q2 d s r w c n ↔ x ∈ c ∨ ∃ h v, h < n ∧ v < d 0 + 1 ∧ qIs (qH d s r) h = true ∧ qIs (qS d s r) v = true ∧ x = (w, h, v)
  | 0 => ⟨fun q => Or.inl q, fun q => by
      rcases q with q | ⟨h, v, hv, _⟩
      · exact q
      · omega⟩
  | n + 1 => by
    have ih := q2_mem d s r w c x n
    rw [q2]
    split
    · rename_i hq
      rw [q3_mem, ih]
      constructor
      · rintro ((q | ⟨h, v, a, b, e, f, g⟩) | ⟨v, a, b, e⟩)
        · exact Or.inl q
        · exact Or.inr ⟨h, v, by omega, b, e, f, g⟩
        · exact Or.inr ⟨n, v, by omega, a, hq, b, e⟩
      · rintro (q | ⟨h, v, a, b, e, f, g⟩)
        · exact Or.inl (Or.inl q)
        · by_cases ev : h = n
          · subst ev
            exact Or.inr ⟨v, b, f, g⟩
          · exact Or.inl (Or.inr ⟨h, v, by omega, b, e, f, g⟩)
    · rename_i hq
      rw [ih]
      constructor
      · rintro (q | ⟨h, v, a, b, e, f, g⟩)
        · exact Or.inl q
        · exact Or.inr ⟨h, v, by omega, b, e, f, g⟩
      · rintro (q | ⟨h, v, a, b, e, f, g⟩)
        · exact Or.inl q
        · by_cases ev : h = n
          · subst ev
            exact absurd e hq
          · exact Or.inr ⟨h, v, by omega, b, e, f, g⟩
theorem q1_mem (d : Td) (s r : Nat) (x : Tp) : ∀ n, x ∈ q1 d s r n ↔ ∃ w h v, (w < n ∧ h < d 0 + 1 ∧ v < d 0 + 1) ∧ qIs (qW d s r) w = true ∧ qIs (qH d s r) h = true ∧ qIs (qS d s r) v = true ∧ x = (w, h, v)
  | 0 => ⟨fun q => (by cases q), fun q => by
      obtain ⟨w, h, v, hv, _⟩ := q
      omega⟩
  | n + 1 => by
    have ih := q1_mem d s r x n
    rw [q1]
    split
    · rename_i hq
      rw [q2_mem, ih]
      constructor
      · rintro (⟨w, h, v, a, b, e, f, g⟩ | ⟨h, v, a, b, e, f, g⟩)
        · exact ⟨w, h, v, by omega, b, e, f, g⟩
        · exact ⟨n, h, v, by omega, hq, e, f, g⟩
      · rintro ⟨w, h, v, a, b, e, f, g⟩
        by_cases ev : w = n
        · subst ev
          exact Or.inr ⟨h, v, by omega, by omega, e, f, g⟩
        · exact Or.inl ⟨w, h, v, by omega, b, e, f, g⟩
    · rename_i hq
      rw [ih]
      constructor
      · rintro ⟨w, h, v, a, b, e, f, g⟩
        exact ⟨w, h, v, by omega, b, e, f, g⟩
      · rintro ⟨w, h, v, a, b, e, f, g⟩
        by_cases ev : w = n
        · subst ev
          exact absurd b hq
        · exact ⟨w, h, v, by omega, b, e, f, g⟩
def qKey (x : Tp) : Nat := x.1 * 81 + x.2.1 * 9 + x.2.2
theorem pw_snoc {l : List Tp} {x : Tp} (h : l.Pairwise (fun a b => qKey a < qKey b)) (hx : ∀ a, a ∈ l → qKey a < qKey x) : (l ++ [x]).Pairwise (fun a b => qKey a < qKey b) := by
  rw [List.pairwise_append]
  refine ⟨h, List.pairwise_singleton _ _, fun a ha b hb => ?_⟩
  rw [List.mem_singleton] at hb
  rw [hb]
  exact hx a ha
theorem q3_srt {d : Td} (hd : d 0 ≤ 8) {s r w h : Nat} {c : List Tp} (hc : c.Pairwise (fun a b => qKey a < qKey b)) (hk : ∀ a, a ∈ c → qKey a < w * 81 + h * 9) : ∀ n, n ≤ 9 → (q3 d s r w h c n).Pairwise (fun a b => qKey a < qKey b) ∧ ∀ a, a ∈ q3 d s r w h c n → qKey a < w * 81 + h * 9 + n
  | 0, _ => ⟨hc, fun a ha => by
      have := hk a ha
      omega⟩
  | n + 1, hn => by
    obtain ⟨i1, i2⟩ := q3_srt hd hc hk n (by omega) (s := s) (r := r)
    rw [q3]
    split
    · refine ⟨pw_snoc i1 (fun a ha => i2 a ha), fun a ha => ?_⟩
      rw [List.mem_append] at ha
      rcases ha with ha | ha
      · have := i2 a ha
        omega
      · rw [List.mem_singleton] at ha
        rw [ha]
        show w * 81 + h * 9 + n < _
        omega
    · exact ⟨i1, fun a ha => by
        have := i2 a ha
        omega⟩
theorem q2_srt {d : Td} (hd : d 0 ≤ 8) {s r w : Nat} {c : List Tp} (hc : c.Pairwise (fun a b => qKey a < qKey b)) (hk : ∀ a, a ∈ c → qKey a < w * 81) : ∀ n, n ≤ 9 → (q2 d s r w c n).Pairwise (fun a b => qKey a < qKey b) ∧ ∀ a, a ∈ q2 d s r w c n → qKey a < w * 81 + n * 9
  | 0, _ => ⟨hc, fun a ha => by
      have := hk a ha
      omega⟩
  | n + 1, hn => by
    obtain ⟨i1, i2⟩ := q2_srt hd hc hk n (by omega) (s := s) (r := r)
    rw [q2]
    split
    · obtain ⟨j1, j2⟩ := q3_srt hd i1 i2 (d 0 + 1) (by omega) (s := s) (r := r)
      exact ⟨j1, fun a ha => by
        have := j2 a ha
        omega⟩
    · exact ⟨i1, fun a ha => by
        have := i2 a ha
        omega⟩
theorem q1_srt {d : Td} (hd : d 0 ≤ 8) {s r : Nat} : ∀ n, n ≤ 9 → (q1 d s r n).Pairwise (fun a b => qKey a < qKey b) ∧ ∀ a, a ∈ q1 d s r n → qKey a < n * 81
  | 0, _ => ⟨List.Pairwise.nil, fun a ha => by cases ha⟩
  | n + 1, hn => by
    obtain ⟨i1, i2⟩ := q1_srt hd n (by omega) (s := s) (r := r)
    rw [q1]
    split
    · obtain ⟨j1, j2⟩ := q2_srt hd i1 i2 (d 0 + 1) (by omega) (s := s) (r := r)
      exact ⟨j1, fun a ha => by
        have := j2 a ha
        omega⟩
    · exact ⟨i1, fun a ha => by
        have := i2 a ha
        omega⟩
-- what is not listed comes to as much as what is
theorem qMt_tb {d : Td} {s r as wo k : Nat} : (qMt d s r as wo).testBit k = true ↔ k < d 0 ∧ ((nS d s r k >>> as) ^^^ nS d s r k) &&& wo ≠ 0 := by
  unfold qMt
  rw [orB_tb, Bool.and_eq_true, decide_eq_true_iff, decide_eq_true_iff]
theorem nS_in {d : Td} {s r k : Nat} (h : nS d s r k ≠ 0) : s.testBit k = true := by
  cases hb : s.testBit k
  · exfalso
    apply h
    unfold nS
    rw [if_neg (by rw [hb]; simp)]
  · rfl
theorem qMt_in {d : Td} {s r as wo k : Nat} (h : (qMt d s r as wo).testBit k = true) : s.testBit k = true := by
  refine nS_in (d := d) (r := r) (fun z => ?_)
  have := (qMt_tb.mp h).2
  rw [z] at this
  simp at this
theorem qIs_W {d : Td} (wf : Wf d) {s r w : Nat} (hw : w ≤ 8) (h : qIs (qW d s r) w = true) : mW d s w = true := by
  cases w with
  | zero => rfl
  | succ k =>
    have h2 : (qMt d s r 1 85 &&& bt (fun i => d (5 + i)) 8).testBit k = true := by
      have : qIs (qW d s r) (k + 1) = ((qW d s r).testBit k && true) := rfl
      rw [this, Bool.and_true] at h
      exact h
    rw [Nat.testBit_and, bt_tb (fun i hi => (wf.2.1 i hi).1) (by omega), Bool.and_eq_true] at h2
    show (s.testBit k && decide (d (5 + k) = 1)) = true
    rw [qMt_in h2.1, h2.2]
    rfl
theorem qIs_S {d : Td} (wf : Wf d) {s r w : Nat} (hw : w ≤ 8) (h : qIs (qS d s r) w = true) : mS d s w = true := by
  cases w with
  | zero => rfl
  | succ k =>
    have h2 : (qMt d s r 4 15 &&& bt (fun i => d (13 + i)) 8).testBit k = true := by
      have : qIs (qS d s r) (k + 1) = ((qS d s r).testBit k && true) := rfl
      rw [this, Bool.and_true] at h
      exact h
    rw [Nat.testBit_and, bt_tb (fun i hi => (wf.2.1 i hi).2.1) (by omega), Bool.and_eq_true] at h2
    show (s.testBit k && decide (d (13 + k) = 1)) = true
    rw [qMt_in h2.1, h2.2]
    rfl
theorem qIs_H {d : Td} {s r w : Nat} (h : qIs (qH d s r) w = true) : mH d s w = true := by
  cases w with
  | zero => rfl
  | succ k =>
    have h2 : (qH d s r).testBit k = true := by
      have : qIs (qH d s r) (k + 1) = ((qH d s r).testBit k && true) := rfl
      rw [this, Bool.and_true] at h
      exact h
    unfold qH at h2
    split at h2
    · rename_i ha
      show (s.testBit k && twAw d) = true
      rw [qMt_in h2, ha]
      rfl
    · simp at h2
/-- a way and the same without one of its three make no difference -/
theorem qMt_no {S as wo y : Nat} (h : ((S >>> as) ^^^ S) &&& wo = 0) (hw : wo.testBit y = true) : S.testBit (as + y) = S.testBit y := by
  have : (((S >>> as) ^^^ S) &&& wo).testBit y = false := by rw [h]; simp
  rw [Nat.testBit_and, hw, Bool.and_true, Nat.testBit_xor, Nat.testBit_shiftRight] at this
  cases h1 : S.testBit (as + y) <;> cases h2 : S.testBit y <;> simp_all
theorem stA_cg {d : Td} {A s r w h v w' h' v' : Nat} (hq : ∀ k, k < d 0 → s.testBit k = true → (nS d s r k).testBit (nWy k w h v) = (nS d s r k).testBit (nWy k w' h' v')) : stA d A s r w h v = stA d A s r w' h' v' := by
  unfold stA
  refine orB_eq _ (fun k hk => ?_)
  cases hb : s.testBit k
  · rfl
  · rw [hq k hk hb]
theorem q_noW {d : Td} (wf : Wf d) {A s r w h v : Nat} (hs : s < 2 ^ d 0) (hw : w ≤ 8) (hm : mW d s w = true) (hn : ¬ qIs (qW d s r) w = true) : stA d A s r w h v = stA d A s r 0 h v := by
  cases w with
  | zero => rfl
  | succ k =>
    have h1 : (s.testBit k && decide (d (5 + k) = 1)) = true := hm
    rw [Bool.and_eq_true] at h1
    have hk := r_bits_lt hs h1.1
    have h2 : ¬ (qMt d s r 1 85 &&& bt (fun i => d (5 + i)) 8).testBit k = true := by
      intro z
      apply hn
      show ((qW d s r).testBit k && true) = true
      rw [Bool.and_true]
      exact z
    rw [Nat.testBit_and, bt_tb (fun i hi => (wf.2.1 i hi).1) (by omega), h1.2, Bool.and_true] at h2
    have h3 : ((nS d s r k >>> 1) ^^^ nS d s r k) &&& 85 = 0 := by
      apply Classical.byContradiction
      intro z
      exact h2 (qMt_tb.mpr ⟨hk, z⟩)
    refine stA_cg (fun j hj hb => ?_)
    by_cases e : j = k
    · subst e
      unfold nWy
      rw [if_pos (show j + 1 = j + 1 from rfl), if_neg (show ¬ 0 = j + 1 by omega)]
      have e0 := qMt_no (y := 0) h3 (by decide)
      have e2 := qMt_no (y := 2) h3 (by decide)
      have e4 := qMt_no (y := 4) h3 (by decide)
      have e6 := qMt_no (y := 6) h3 (by decide)
      split <;> split
      · exact e6
      · exact e2
      · exact e4
      · exact e0
    · unfold nWy
      rw [if_neg (show ¬ k + 1 = j + 1 by omega), if_neg (show ¬ 0 = j + 1 by omega)]
theorem q_noH {d : Td} {A s r w h v : Nat} (hs : s < 2 ^ d 0) (hm : mH d s h = true) (hn : ¬ qIs (qH d s r) h = true) : stA d A s r w h v = stA d A s r w 0 v := by
  cases h with
  | zero => rfl
  | succ k =>
    have h1 : (s.testBit k && twAw d) = true := hm
    rw [Bool.and_eq_true] at h1
    have hk := r_bits_lt hs h1.1
    have h2 : ¬ (qMt d s r 2 51).testBit k = true := by
      intro z
      apply hn
      show ((qH d s r).testBit k && true) = true
      unfold qH
      rw [Bool.and_true, if_pos h1.2]
      exact z
    have h3 : ((nS d s r k >>> 2) ^^^ nS d s r k) &&& 51 = 0 := by
      apply Classical.byContradiction
      intro z
      exact h2 (qMt_tb.mpr ⟨hk, z⟩)
    refine stA_cg (fun j hj hb => ?_)
    by_cases e : j = k
    · subst e
      unfold nWy
      rw [if_pos (show j + 1 = j + 1 from rfl), if_neg (show ¬ 0 = j + 1 by omega)]
      have e0 := qMt_no (y := 0) h3 (by decide)
      have e2 := qMt_no (y := 1) h3 (by decide)
      have e4 := qMt_no (y := 4) h3 (by decide)
      have e6 := qMt_no (y := 5) h3 (by decide)
      split <;> split
      · exact e6
      · exact e2
      · exact e4
      · exact e0
    · unfold nWy
      rw [if_neg (show ¬ k + 1 = j + 1 by omega), if_neg (show ¬ 0 = j + 1 by omega)]
theorem q_noS {d : Td} (wf : Wf d) {A s r w h v : Nat} (hs : s < 2 ^ d 0) (hv : v ≤ 8) (hm : mS d s v = true) (hn : ¬ qIs (qS d s r) v = true) : stA d A s r w h v = stA d A s r w h 0 := by
  cases v with
  | zero => rfl
  | succ k =>
    have h1 : (s.testBit k && decide (d (13 + k) = 1)) = true := hm
    rw [Bool.and_eq_true] at h1
    have hk := r_bits_lt hs h1.1
    have h2 : ¬ (qMt d s r 4 15 &&& bt (fun i => d (13 + i)) 8).testBit k = true := by
      intro z
      apply hn
      show ((qS d s r).testBit k && true) = true
      rw [Bool.and_true]
      exact z
    rw [Nat.testBit_and, bt_tb (fun i hi => (wf.2.1 i hi).2.1) (by omega), h1.2, Bool.and_true] at h2
    have h3 : ((nS d s r k >>> 4) ^^^ nS d s r k) &&& 15 = 0 := by
      apply Classical.byContradiction
      intro z
      exact h2 (qMt_tb.mpr ⟨hk, z⟩)
    refine stA_cg (fun j hj hb => ?_)
    by_cases e : j = k
    · subst e
      unfold nWy
      rw [if_pos (show j + 1 = j + 1 from rfl), if_neg (show ¬ 0 = j + 1 by omega)]
      have e0 := qMt_no (y := 0) h3 (by decide)
      have e2 := qMt_no (y := 1) h3 (by decide)
      have e4 := qMt_no (y := 2) h3 (by decide)
      have e6 := qMt_no (y := 3) h3 (by decide)
      split <;> split
      · exact e6
      · exact e2
      · exact e4
      · exact e0
    · unfold nWy
      rw [if_neg (show ¬ k + 1 = j + 1 by omega), if_neg (show ¬ 0 = j + 1 by omega)]
theorem qL_al {d : Td} (wf : Wf d) {s r : Nat} {x : Tp} (h : x ∈ qL d s r) : nAl d s x.1 x.2.1 x.2.2 := by
  obtain ⟨w, h, v, a, b, e, f, g⟩ := (q1_mem d s r x (d 0 + 1)).mp h
  have := wf.1.1
  rw [g]
  show nAl d s w h v
  exact ⟨⟨by omega, by omega, by omega⟩, qIs_W wf (by omega) b, qIs_H e, qIs_S wf (by omega) f⟩
/-- for each that may be chosen one as good is listed, none behind it -/
theorem qL_norm {d : Td} (wf : Wf d) {A s r w h v : Nat} (hs : s < 2 ^ d 0) (ha : nAl d s w h v) : ∃ x, x ∈ qL d s r ∧ stA d A s r x.1 x.2.1 x.2.2 = stA d A s r w h v ∧ qKey x ≤ qKey (w, h, v) ∧ (qKey x = qKey (w, h, v) → x = (w, h, v)) := by
  obtain ⟨⟨a1, a2, a3⟩, a4, a5, a6⟩ := ha
  have hd := wf.1.1
  have z0 : ∀ a, qIs a 0 = true := fun a => rfl
  have hw : ∃ w', w' ≤ w ∧ qIs (qW d s r) w' = true ∧ (∀ h v, stA d A s r w' h v = stA d A s r w h v) ∧ (w' = w ∨ w' < w) := by
    by_cases q : qIs (qW d s r) w = true
    · exact ⟨w, Nat.le_refl _, q, fun _ _ => rfl, Or.inl rfl⟩
    · refine ⟨0, Nat.zero_le _, z0 _, fun _ _ => (q_noW wf hs (by omega) a4 q).symm, ?_⟩
      omega
  have hh : ∃ h', h' ≤ h ∧ qIs (qH d s r) h' = true ∧ (∀ w v, stA d A s r w h' v = stA d A s r w h v) := by
    by_cases q : qIs (qH d s r) h = true
    · exact ⟨h, Nat.le_refl _, q, fun _ _ => rfl⟩
    · exact ⟨0, Nat.zero_le _, z0 _, fun _ _ => (q_noH hs a5 q).symm⟩
  have hv : ∃ v', v' ≤ v ∧ qIs (qS d s r) v' = true ∧ (∀ w h, stA d A s r w h v' = stA d A s r w h v) := by
    by_cases q : qIs (qS d s r) v = true
    · exact ⟨v, Nat.le_refl _, q, fun _ _ => rfl⟩
    · exact ⟨0, Nat.zero_le _, z0 _, fun _ _ => (q_noS wf hs (by omega) a6 q).symm⟩
  obtain ⟨w', b1, b2, b3, _⟩ := hw
  obtain ⟨h', c1, c2, c3⟩ := hh
  obtain ⟨v', e1, e2, e3⟩ := hv
  refine ⟨(w', h', v'), (q1_mem d s r _ (d 0 + 1)).mpr ⟨w', h', v', by omega, b2, c2, e2, rfl⟩, ?_, ?_, fun q => ?_⟩
  · show stA d A s r w' h' v' = _
    rw [b3, c3, e3]
  · show w' * 81 + h' * 9 + v' ≤ w * 81 + h * 9 + v
    omega
  · have q2 : w' * 81 + h' * 9 + v' = w * 81 + h * 9 + v := q
    have x1 : w' = w := by omega
    have x2 : h' = h := by omega
    have x3 : v' = v := by omega
    rw [x1, x2, x3]
/-- the most over the list, and where it stands first -/
def qMx (f : Nat → Nat) (g : Tp → Nat) : List Tp → Nat
  | [] => 0
  | x :: l => max (f (g x)) (qMx f g l)
