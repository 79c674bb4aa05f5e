-- HANDS
def hNb (d : Td) (x : Nat → Nat) (t : Nat) : Nat := if sFirst d x t = 0 then 0 else sNd d (sFirst d x t - 1)
def aRow (nb : Nat → Nat) : Nat → Nat → Nat
  | 0, a => a
  | k + 1, a => if (aRow nb k a).testBit k = true then aRow nb k a ||| nb k else aRow nb k a
def aRnd (nb : Nat → Nat) (n : Nat) : Nat → Nat → Nat
  | 0, a => a
  | r + 1, a => aRow nb n (aRnd nb n r a)
def tb (a t : Nat) : Bool := a.testBit t
theorem aRow_ge {nb : Nat → Nat} {a t : Nat} (h : a.testBit t = true) : ∀ k, (aRow nb k a).testBit t = true
  | 0 => h
  | k + 1 => by
    have := aRow_ge (nb := nb) h k
    rw [aRow]
    split
    · rw [Nat.testBit_or, this]
      rfl
    · exact this
theorem aRow_ge2 {nb : Nat → Nat} {a t k : Nat} (h : (aRow nb k a).testBit t = true) : ∀ n, k ≤ n → (aRow nb n a).testBit t = true
  | 0, hk => by
    have : k = 0 := by omega
    subst this
    exact h
  | n + 1, hk => by
    by_cases e : k = n + 1
    · subst e
      exact h
    · have := aRow_ge2 (nb := nb) h n (by omega)
      rw [aRow]
      split
      · rw [Nat.testBit_or, this]
        rfl
      · exact this
theorem aRow_cl {nb : Nat → Nat} {a k t : Nat} (h : a.testBit k = true) (ht : (nb k).testBit t = true) {n : Nat} (hk : k < n) : (aRow nb n a).testBit t = true := by
  refine aRow_ge2 (k := k + 1) ?_ n (by omega)
  rw [aRow, if_pos (aRow_ge h k), Nat.testBit_or, ht, Bool.or_true]
theorem aRow_P {nb : Nat → Nat} {P : Nat → Prop} (hc : ∀ t, P t → ∀ k, (nb t).testBit k = true → P k) {a : Nat} (h : ∀ t, a.testBit t = true → P t) : ∀ n t, (aRow nb n a).testBit t = true → P t
  | 0, t, ht => h t ht
  | n + 1, t, ht => by
    have ih := aRow_P hc h n
    rw [aRow] at ht
    split at ht
    · rw [Nat.testBit_or, Bool.or_eq_true] at ht
      rcases ht with ht | ht
      · exact ih t ht
      · exact hc n (ih n (by assumption)) t ht
    · exact ih t ht
theorem aRow_lt {nb : Nat → Nat} {N : Nat} (hN : ∀ t, nb t < 2 ^ N) {a : Nat} (ha : a < 2 ^ N) : ∀ k, aRow nb k a < 2 ^ N
  | 0 => ha
  | k + 1 => by
    have := aRow_lt hN ha k
    rw [aRow]
    split
    · exact r_or_lt this (hN k)
    · exact this
theorem aRnd_lt {nb : Nat → Nat} {n N : Nat} (hN : ∀ t, nb t < 2 ^ N) {a : Nat} (ha : a < 2 ^ N) : ∀ r, aRnd nb n r a < 2 ^ N
  | 0 => ha
  | r + 1 => aRow_lt hN (aRnd_lt hN ha r) n
theorem aRnd_ge {nb : Nat → Nat} {n a t : Nat} (h : a.testBit t = true) : ∀ r, (aRnd nb n r a).testBit t = true
  | 0 => h
  | r + 1 => aRow_ge (aRnd_ge h r) n
theorem aRnd_P {nb : Nat → Nat} {n : Nat} {P : Nat → Prop} (hc : ∀ t, P t → ∀ k, (nb t).testBit k = true → P k) {a : Nat} (h : ∀ t, a.testBit t = true → P t) : ∀ r t, (aRnd nb n r a).testBit t = true → P t
  | 0, t, ht => h t ht
  | r + 1, t, ht => aRow_P hc (aRnd_P hc h r) n t ht
def aCl (nb : Nat → Nat) (c : Nat) : Prop := ∀ t, c.testBit t = true → ∀ k, (nb t).testBit k = true → c.testBit k = true
/-- a round that adds nothing leaves what is closed; else it adds one -/
theorem aRow_or {nb : Nat → Nat} {n : Nat} (a : Nat) (ha : a < 2 ^ n) (hN : ∀ t, nb t < 2 ^ n) : aCl nb a ∨ ∃ t, t < n ∧ (aRow nb n a).testBit t = true ∧ a.testBit t = false := by
  by_cases h : ∃ t, t < n ∧ (aRow nb n a).testBit t = true ∧ a.testBit t = false
  · exact Or.inr h
  · left
    intro t ht k hk
    have h1 : t < n := r_bits_lt ha ht
    have h2 := aRow_cl (nb := nb) ht hk h1
    have h3 : k < n := r_bits_lt (hN t) hk
    cases hb : a.testBit k
    · exact absurd ⟨k, h3, h2, hb⟩ h
    · rfl
theorem aRow_id {nb : Nat → Nat} {a : Nat} (h : aCl nb a) : ∀ n, aRow nb n a = a
  | 0 => rfl
  | n + 1 => by
    rw [aRow, aRow_id h n]
    split
    · apply Nat.eq_of_testBit_eq
      intro i
      rw [Nat.testBit_or]
      cases hb : (nb n).testBit i
      · simp
      · rw [h n (by assumption) i hb]
        rfl
    · rfl
theorem aRnd_cl {nb : Nat → Nat} {n : Nat} (hN : ∀ t, nb t < 2 ^ n) {a : Nat} (ha : a < 2 ^ n) : aCl nb (aRnd nb n n a) := by
  have all : ∀ r, aCl nb (aRnd nb n r a) ∨ r ≤ cn (tb (aRnd nb n r a)) n := by
    intro r
    induction r with
    | zero => exact Or.inr (Nat.zero_le _)
    | succ r ih =>
      rcases ih with h | h
      · left
        have := aRow_id h n
        rw [aRnd, this]
        exact h
      · rcases aRow_or (nb := nb) (n := n) (aRnd nb n r a) (aRnd_lt hN ha r) hN with h2 | ⟨t, h2, h3, h4⟩
        · left
          have := aRow_id h2 n
          rw [aRnd, this]
          exact h2
        · right
          have := cn_lt (p := tb (aRnd nb n r a)) (q := tb (aRnd nb n (r + 1) a)) n (fun t _ h5 => aRow_ge h5 n) ⟨t, h2, h3, h4⟩
          omega
  rcases all n with h | h
  · exact h
  · rcases aRow_or (nb := nb) (n := n) (aRnd nb n n a) (aRnd_lt hN ha n) hN with h2 | ⟨t, h2, h3, h4⟩
    · exact h2
    · have := cn_miss (p := tb (aRnd nb n n a)) h2 h4
      omega
/-- all that is needed for a set -/
def hAll (d : Td) (x : Nat → Nat) (s : Nat) : Nat := aRnd (hNb d x) (d 0) (d 0) s
-- SUMS
def sm (f : Nat → Nat) : Nat → Nat
  | 0 => 0
  | n + 1 => sm f n + f n
theorem sm_eq {f g : Nat → Nat} : ∀ n, (∀ k, k < n → f k = g k) → sm f n = sm g n
  | 0, _ => rfl
  | n + 1, h => by
    rw [sm, sm, sm_eq n (fun k hk => h k (by omega)), h n (by omega)]
theorem sm_add (f g : Nat → Nat) : ∀ n, sm (fun k => f k + g k) n = sm f n + sm g n
  | 0 => rfl
  | n + 1 => by
    rw [sm, sm, sm, sm_add f g n]
    omega
theorem sm_zero : ∀ n, sm (fun _ => 0) n = 0
  | 0 => rfl
  | n + 1 => by
    rw [sm, sm_zero n]
theorem sm_one {v j : Nat} : ∀ n, j < n → sm (fun k => if k = j then v else 0) n = v
  | 0, h => by omega
  | n + 1, h => by
    rw [sm]
    by_cases e : j = n
    · subst e
      rw [if_pos rfl, sm_eq (g := fun _ => 0) j (fun k hk => if_neg (by omega)), sm_zero]
      omega
    · rw [if_neg (fun q => e q.symm), sm_one n (by omega), Nat.add_zero]
theorem sm_le {f : Nat → Nat} {B : Nat} (h : ∀ k, f k ≤ B) : ∀ n, sm f n ≤ n * B
  | 0 => Nat.zero_le _
  | n + 1 => by
    have := sm_le h n
    have := h n
    rw [sm, Nat.succ_mul]
    omega
def mxf (f : Nat → Nat) : Nat → Nat
  | 0 => 0
  | n + 1 => max (mxf f n) (f n)
theorem mxf_le {f : Nat → Nat} {B : Nat} : ∀ n, (∀ k, k < n → f k ≤ B) → mxf f n ≤ B
  | 0, _ => Nat.zero_le _
  | n + 1, h => by
    have := mxf_le n (fun k hk => h k (by omega))
    have := h n (by omega)
    rw [mxf]
    omega
theorem le_mxf {f : Nat → Nat} {k : Nat} : ∀ n, k < n → f k ≤ mxf f n
  | 0, h => by omega
  | n + 1, h => by
    rw [mxf]
    by_cases e : k = n
    · subst e
      omega
    · have := le_mxf (f := f) (k := k) n (by omega)
      omega
/-- the MAKING of a THING that is in C, 0 none -/
def hBy (d : Td) (x : Nat → Nat) (C t : Nat) : Nat := if C.testBit t = true then sFirst d x t else 0
/-- over the THINGS of C -/
def hT (d : Td) (x : Nat → Nat) (C : Nat) (w : Nat → Nat) (t : Nat) : Nat := if hBy d x C t = 0 then 0 else w (hBy d x C t - 1)
/-- over the MAKINGS of the THINGS of C -/
def hM (d : Td) (x : Nat → Nat) (C : Nat) (w : Nat → Nat) (m : Nat) : Nat := if hBy d x C (d (29 + m)) = m + 1 then w m else 0
theorem hBy_ok {d : Td} {x : Nat → Nat} {C t m : Nat} (h : hBy d x C t = m + 1) : m < d 1 ∧ d (29 + m) = t := by
  unfold hBy at h
  split at h
  · have := sFirst_ok h
    exact ⟨this.1, this.2.1⟩
  · omega
theorem h_sum {d : Td} {x : Nat → Nat} {C : Nat} {w : Nat → Nat} : ∀ n, sm (fun m => if d (29 + m) < n then hM d x C w m else 0) (d 1) = sm (hT d x C w) n
  | 0 => by
    rw [sm_eq (g := fun _ => 0) (d 1) (fun k _ => if_neg (by omega)), sm_zero]
    rfl
  | n + 1 => by
    rw [sm, ← h_sum n, sm_eq (g := fun m => (if d (29 + m) < n then hM d x C w m else 0) + (if d (29 + m) = n then hM d x C w m else 0)) (d 1), sm_add]
    · congr 1
      unfold hT
      by_cases h0 : hBy d x C n = 0
      · rw [if_pos h0, sm_eq (g := fun _ => 0) (d 1) (fun k _ => ?_), sm_zero]
        by_cases e : d (29 + k) = n
        · rw [if_pos e]
          unfold hM
          rw [e, h0, if_neg (by omega)]
        · exact if_neg e
      · rw [if_neg h0]
        have hk := hBy_ok (d := d) (x := x) (C := C) (t := n) (m := hBy d x C n - 1) (by omega)
        rw [sm_eq (g := fun m => if m = hBy d x C n - 1 then w (hBy d x C n - 1) else 0) (d 1) (fun k _ => ?_), sm_one (d 1) hk.1]
        by_cases e : k = hBy d x C n - 1
        · subst e
          rw [if_pos hk.2, if_pos rfl]
          unfold hM
          rw [hk.2, if_pos (by omega)]
        · rw [if_neg e]
          by_cases e2 : d (29 + k) = n
          · rw [if_pos e2]
            unfold hM
            rw [e2, if_neg (by omega)]
          · exact if_neg e2
    · intro k _
      by_cases e : d (29 + k) < n
      · rw [if_pos e, if_pos (by omega), if_neg (by omega)]
        rfl
      · by_cases e2 : d (29 + k) = n
        · rw [if_neg e, if_pos e2, if_pos (by omega)]
          omega
        · rw [if_neg e, if_neg e2, if_neg (by omega)]
theorem h_sum2 {d : Td} (wf : Wf d) {x : Nat → Nat} {C : Nat} {w : Nat → Nat} : sm (hM d x C w) (d 1) = sm (hT d x C w) (d 0) := by
  rw [← h_sum (d 0)]
  refine sm_eq _ (fun k hk => ?_)
  have := (wf.2.2.2.2.1 k hk).1
  rw [if_pos this]
theorem h_max {d : Td} (wf : Wf d) {x : Nat → Nat} {C : Nat} {w : Nat → Nat} : mxf (hM d x C w) (d 1) = mxf (hT d x C w) (d 0) := by
  apply Nat.le_antisymm
  · refine mxf_le _ (fun m hm => ?_)
    unfold hM
    split
    · rename_i h
      have h1 := (wf.2.2.2.2.1 m hm).1
      have h2 := le_mxf (f := hT d x C w) (k := d (29 + m)) (d 0) h1
      unfold hT at h2
      rw [if_neg (by omega), h, Nat.add_sub_cancel] at h2
      exact h2
    · exact Nat.zero_le _
  · refine mxf_le _ (fun t ht => ?_)
    unfold hT
    split
    · exact Nat.zero_le _
    · rename_i h
      have hk := hBy_ok (d := d) (x := x) (C := C) (t := t) (m := hBy d x C t - 1) (by omega)
      have h2 := le_mxf (f := hM d x C w) (k := hBy d x C t - 1) (d 1) hk.1
      unfold hM at h2
      rw [hk.2, if_pos (by omega)] at h2
      exact h2
/-- all of a set can be had in a DAY -/
def hCan (d : Td) (x : Nat → Nat) (s : Nat) : Prop := ∀ t, t < d 0 → s.testBit t = true → x t ≤ 24
theorem hNb_lt {d : Td} (wf : Wf d) {x : Nat → Nat} (t : Nat) : hNb d x t < 2 ^ d 0 := by
  unfold hNb
  split
  · exact Nat.two_pow_pos _
  · rename_i h
    have hk := sFirst_ok (d := d) (x := x) (t := t) (k := sFirst d x t - 1) (by omega)
    have h5 := wf.2.2.2.2.1 _ hk.1
    exact r_or_lt h5.2.2.2.1 h5.2.2.2.2.1
theorem hAll_can {d : Td} (wf : Wf d) {x : Nat → Nat} {s : Nat} (hs : s < 2 ^ d 0) (h : hCan d x s) {t : Nat} (ht : (hAll d x s).testBit t = true) : x t ≤ 24 := by
  refine aRnd_P (nb := hNb d x) (n := d 0) (P := fun t => x t ≤ 24) (fun t h1 k hk => ?_) (fun t h1 => h t (r_bits_lt hs h1) h1) (d 0) t ht
  have hk0 := r_bits_lt (hNb_lt wf t) hk
  unfold hNb at hk
  split at hk
  · simp at hk
  · have := sFirst_need wf (x := x) (t := t) (m := sFirst d x t - 1) (by omega) hk0 hk
    omega
theorem hAll_ge {d : Td} {x : Nat → Nat} {s t : Nat} (h : s.testBit t = true) : (hAll d x s).testBit t = true := aRnd_ge h _
theorem hAll_lt {d : Td} (wf : Wf d) {x : Nat → Nat} {s : Nat} (hs : s < 2 ^ d 0) : hAll d x s < 2 ^ d 0 := aRnd_lt (hNb_lt wf) hs _
theorem hAll_cl {d : Td} (wf : Wf d) {x : Nat → Nat} {s : Nat} (hs : s < 2 ^ d 0) : aCl (hNb d x) (hAll d x s) := aRnd_cl (hNb_lt wf) hs
def hW (d : Td) (m : Nat) : Nat := d (41 + m) * d (53 + m)
def hSum (d : Td) (x : Nat → Nat) (s : Nat) : Nat := sm (hT d x (hAll d x s) (hW d)) (d 0)
def hMax (d : Td) (x : Nat → Nat) (s : Nat) : Nat := mxf (hT d x (hAll d x s) (fun m => d (53 + m))) (d 0)
def hCanB (x : Nat → Nat) (s : Nat) : Nat → Bool
  | 0 => true
  | t + 1 => hCanB x s t && (!s.testBit t || decide (x t ≤ 24))
theorem hCanB_t {x : Nat → Nat} {s : Nat} : ∀ n, hCanB x s n = true ↔ ∀ t, t < n → s.testBit t = true → x t ≤ 24
  | 0 => ⟨fun _ t ht => by omega, fun _ => rfl⟩
  | n + 1 => by
    rw [hCanB, Bool.and_eq_true, hCanB_t n]
    constructor
    · rintro ⟨h1, h2⟩ t ht hb
      by_cases e : t = n
      · subst e
        rw [hb] at h2
        simpa using h2
      · exact h1 t (by omega) hb
    · intro h
      refine ⟨fun t ht hb => h t (by omega) hb, ?_⟩
      cases hb : s.testBit n
      · rfl
      · have := h n (by omega) hb
        simp [this]
def g_hands (d : Td) (s : Int32) : Int32 × Nat := if ¬ (0 ≤ s.toInt ∧ s.toInt < ((2 ^ d 0 : Nat) : Int)) then (-1, 2) else if hCanB (sT d 0) s.toInt.toNat (d 0) = true then (nI (max (hMax d (sT d 0) s.toInt.toNat) ((hSum d (sT d 0) s.toInt.toNat + 23) / 24)), 0) else (-1, 9)
