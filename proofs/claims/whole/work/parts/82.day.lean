-- WANTS SERVED
abbrev Sh : Type := Nat × Nat × Nat
def wSat (d : Td) (p : Sh) (w : Nat) : Sh := if p.1.testBit (d (107 + w)) = true then ((if d (131 + w) = 1 then r_dif p.1 (2 ^ d (107 + w)) else p.1), p.2.1 + d (123 + w), p.2.2 + 1) else p
def wAtT (d : Td) (t : Nat) : List Nat := (List.range (d 3)).filter (fun w => d (115 + w) == t)
def wAll1 (d : Td) (p : Sh) (l : List Nat) : Sh := l.foldl (wSat d) p
/-- the reference's way: the WANTS of a time one after another -/
def wTk (d : Td) (t s : Nat) : Nat → Sh
  | 0 => (s, 0, 0)
  | k + 1 => if d (115 + k) = t then wSat d (wTk d t s k) k else wTk d t s k
theorem wTk_eq (d : Td) (t s : Nat) : ∀ k, wTk d t s k = wAll1 d (s, 0, 0) ((List.range k).filter (fun w => d (115 + w) == t))
  | 0 => rfl
  | k + 1 => by
    rw [List.range_succ, List.filter_append]
    unfold wAll1
    rw [List.foldl_append]
    have ih := wTk_eq d t s k
    unfold wAll1 at ih
    rw [← ih, wTk]
    by_cases e : d (115 + k) = t
    · rw [if_pos e]
      simp [e]
    · rw [if_neg e]
      simp [e]
def wT (d : Td) (t s : Nat) : Sh := wTk d t s (d 3)
theorem wT_eq (d : Td) (t s : Nat) : wT d t s = wAll1 d (s, 0, 0) (wAtT d t) := wTk_eq d t s (d 3)
theorem wSat_sh (d : Td) (s W H a b w : Nat) : wSat d (s, W + a, H + b) w = ((wSat d (s, W, H) w).1, (wSat d (s, W, H) w).2.1 + a, (wSat d (s, W, H) w).2.2 + b) := by
  unfold wSat
  simp only []
  split
  · simp
    omega
  · rfl
theorem wAll1_sh (d : Td) (a b : Nat) : ∀ (l : List Nat) (s W H : Nat), wAll1 d (s, W + a, H + b) l = ((wAll1 d (s, W, H) l).1, (wAll1 d (s, W, H) l).2.1 + a, (wAll1 d (s, W, H) l).2.2 + b)
  | [], _, _, _ => rfl
  | w :: l, s, W, H => by
    show wAll1 d (wSat d (s, W + a, H + b) w) l = _
    rw [wSat_sh]
    exact wAll1_sh d a b l _ _ _
theorem wAll1_z (d : Td) (l : List Nat) (s W H : Nat) : wAll1 d (s, W, H) l = ((wAll1 d (s, 0, 0) l).1, (wAll1 d (s, 0, 0) l).2.1 + W, (wAll1 d (s, 0, 0) l).2.2 + H) := by
  have := wAll1_sh d W H l s 0 0
  rw [Nat.zero_add, Nat.zero_add] at this
  exact this
theorem wAll1_p (d : Td) (t : Nat) (p : Sh) : wAll1 d p (wAtT d t) = ((wT d t p.1).1, (wT d t p.1).2.1 + p.2.1, (wT d t p.1).2.2 + p.2.2) := by
  rw [wT_eq]
  exact wAll1_z d _ p.1 p.2.1 p.2.2
/-- those of so many times from one on -/
def wR (d : Td) (p : Sh) (f : Nat) : Nat → Sh
  | 0 => p
  | n + 1 => wAll1 d (wR d p f n) (wAtT d (f + n))
theorem wSat_sub {d : Td} {p : Sh} {w i : Nat} (h : (wSat d p w).1.testBit i = true) : p.1.testBit i = true := by
  unfold wSat at h
  split at h
  · split at h
    · rw [r_dif_bit, Bool.and_eq_true] at h
      exact h.1
    · exact h
  · exact h
theorem wAll1_sub {d : Td} {i : Nat} : ∀ (l : List Nat) (p : Sh), (wAll1 d p l).1.testBit i = true → p.1.testBit i = true
  | [], _, h => h
  | w :: l, p, h => wSat_sub (wAll1_sub l (wSat d p w) h)
theorem sub_le {a b : Nat} (h : ∀ i, a.testBit i = true → b.testBit i = true) : a ≤ b := by
  have e : r_dif b (r_dif b a) = a := by
    apply Nat.eq_of_testBit_eq
    intro i
    rw [r_dif_bit, r_dif_bit]
    have := h i
    cases ha : a.testBit i <;> cases hb : b.testBit i <;> simp_all
  rw [← e]
  exact r_dif_le _ _
theorem wAll1_le {d : Td} (l : List Nat) (p : Sh) : (wAll1 d p l).1 ≤ p.1 := sub_le (fun _ h => wAll1_sub l p h)
theorem wT_le (d : Td) (t s : Nat) : (wT d t s).1 ≤ s := by
  rw [wT_eq]
  exact wAll1_le _ _
theorem wR_le (d : Td) (p : Sh) (f : Nat) : ∀ n, (wR d p f n).1 ≤ p.1
  | 0 => Nat.le_refl _
  | n + 1 => Nat.le_trans (wAll1_le _ _) (wR_le d p f n)
theorem wTk_b {d : Td} (wf : Wf d) (t s : Nat) : ∀ k, k ≤ d 3 → (wTk d t s k).2.1 ≤ 999 * k ∧ (wTk d t s k).2.2 ≤ k
  | 0, _ => ⟨Nat.le_refl _, Nat.le_refl _⟩
  | k + 1, hk => by
    have ih := wTk_b wf t s k (by omega)
    have hw := wf.2.2.2.2.2.2 k (by omega)
    rw [wTk]
    split
    · unfold wSat
      split
      · show _ + _ ≤ _ ∧ _ + 1 ≤ _
        omega
      · omega
    · omega
theorem wT_b {d : Td} (wf : Wf d) (t s : Nat) : (wT d t s).2.1 ≤ 7992 ∧ (wT d t s).2.2 ≤ 8 := by
  have h1 := wTk_b wf t s (d 3) (Nat.le_refl _)
  have h2 := wf.1.2.2.2.1
  unfold wT
  omega
theorem wR_b {d : Td} (wf : Wf d) (p : Sh) (f : Nat) : ∀ n, (wR d p f n).2.1 ≤ 7992 * n + p.2.1
  | 0 => by
    show p.2.1 ≤ _
    omega
  | n + 1 => by
    have ih := wR_b wf p f n
    have h1 := (wT_b wf (f + n) (wR d p f n).1).1
    show (wAll1 d (wR d p f n) (wAtT d (f + n))).2.1 ≤ _
    rw [wAll1_p]
    show _ + _ ≤ _
    omega
theorem wAtT_none {d : Td} {t : Nat} (h : wAtT d t = []) (p : Sh) : wAll1 d p (wAtT d t) = p := by
  rw [h]
  rfl
theorem wR_none {d : Td} {p : Sh} {f : Nat} : ∀ n, (∀ i, i < n → wAtT d (f + i) = []) → wR d p f n = p
  | 0, _ => rfl
  | n + 1, h => by
    rw [wR, wAtT_none (h n (by omega))]
    exact wR_none n (fun i hi => h i (by omega))
-- ONE DAY ALONE
abbrev Vt : Type := Nat → Nat → Nat
def dBm (d : Td) (V : Vt) (m t s : Nat) : Nat := (wR d (r_dif s (d (65 + m)), 0, 0) (t + 1) (d (41 + m) - 1)).2.1 + V (t + d (41 + m)) ((wR d (r_dif s (d (65 + m)), 0, 0) (t + 1) (d (41 + m) - 1)).1 ||| 2 ^ d (29 + m))
def dGo (d : Td) (m t s : Nat) : Prop := lCan d m s = true ∧ t + d (41 + m) ≤ 24
def dMf (d : Td) (V : Vt) (t s : Nat) : Nat → Nat
  | 0 => V (t + 1) s
  | m + 1 => if lCan d m s = true ∧ t + d (41 + m) ≤ 24 then max (dMf d V t s m) (dBm d V m t s) else dMf d V t s m
def dRow (d : Td) (B : Nat → Nat) (V : Vt) (t s : Nat) : Nat := (wT d t s).2.1 + if t = 24 then B (wT d t s).1 else dMf d V t (wT d t s).1 (d 1)
def dV (d : Td) (B : Nat → Nat) : Nat → Vt
  | 0 => fun _ _ => 0
  | k + 1 => fun t s => if t = 24 - k then dRow d B (dV d B k) t s else dV d B k t s
theorem dBm_b {d : Td} (wf : Wf d) {V : Vt} {m t s C : Nat} (hm : m < d 1) (h : t + d (41 + m) ≤ 24) (hV : ∀ t' s', t < t' → t' ≤ 24 → V t' s' ≤ C + 7992 * (25 - t')) : dBm d V m t s ≤ C + 7992 * (24 - t) := by
  have hw := (wf.2.2.2.2.1 m hm).2.1
  have h1 := wR_b wf (r_dif s (d (65 + m)), 0, 0) (t + 1) (d (41 + m) - 1)
  have h2 := hV (t + d (41 + m)) ((wR d (r_dif s (d (65 + m)), 0, 0) (t + 1) (d (41 + m) - 1)).1 ||| 2 ^ d (29 + m)) (by omega) h
  unfold dBm
  simp only [] at h1
  omega
theorem dMf_b {d : Td} (wf : Wf d) {V : Vt} {t s C : Nat} (ht : t < 24) (hV : ∀ t' s', t < t' → t' ≤ 24 → V t' s' ≤ C + 7992 * (25 - t')) : ∀ m, m ≤ d 1 → dMf d V t s m ≤ C + 7992 * (24 - t)
  | 0, _ => by
    have := hV (t + 1) s (by omega) (by omega)
    rw [dMf]
    omega
  | m + 1, hm => by
    have ih := dMf_b wf ht hV m (by omega) (s := s)
    rw [dMf]
    split
    · rename_i h
      have := dBm_b wf (s := s) (by omega) h.2 hV
      omega
    · exact ih
theorem dRow_b {d : Td} (wf : Wf d) {B : Nat → Nat} {V : Vt} {t s C : Nat} (ht : t ≤ 24) (hB : ∀ s, B s ≤ C) (hV : ∀ t' s', t < t' → t' ≤ 24 → V t' s' ≤ C + 7992 * (25 - t')) : dRow d B V t s ≤ C + 7992 * (25 - t) := by
  have h1 := (wT_b wf t s).1
  unfold dRow
  split
  · have := hB (wT d t s).1
    omega
  · have := dMf_b wf (s := (wT d t s).1) (by omega) hV (d 1) (Nat.le_refl _)
    omega
theorem dV_b {d : Td} (wf : Wf d) {B : Nat → Nat} {C : Nat} (hB : ∀ s, B s ≤ C) : ∀ k, k ≤ 25 → ∀ t s, 24 < t + k → t ≤ 24 → dV d B k t s ≤ C + 7992 * (25 - t)
  | 0, _, t, s, h1, h2 => by omega
  | k + 1, hk, t, s, h1, h2 => by
    show (if t = 24 - k then _ else _) ≤ _
    split
    · exact dRow_b wf h2 hB (fun t' s' h3 h4 => dV_b wf hB k (by omega) t' s' (by omega) h4)
    · exact dV_b wf hB k (by omega) t s (by omega) h2
/-- the most WORTH from a time and a set on -/
def dA (d : Td) (B : Nat → Nat) : Vt := dV d B 25
theorem dV_st {d : Td} {B : Nat → Nat} {k t s : Nat} (h : 24 < t + k) (ht : t ≤ 24) : ∀ j, k ≤ j → j ≤ 25 → dV d B j t s = dV d B k t s
  | 0, h1, _ => by
    have : k = 0 := by omega
    subst this
    rfl
  | j + 1, h1, h2 => by
    by_cases e : k = j + 1
    · subst e
      rfl
    · show (if t = 24 - j then _ else _) = _
      rw [if_neg (by omega)]
      exact dV_st h ht j (by omega) (by omega)
theorem dA_of {d : Td} {B : Nat → Nat} {k t s : Nat} (hk : k ≤ 25) (h : 24 < t + k) (ht : t ≤ 24) : dV d B k t s = dA d B t s := (dV_st h ht 25 hk (Nat.le_refl _)).symm
theorem dA_b {d : Td} (wf : Wf d) {B : Nat → Nat} {C : Nat} (hB : ∀ s, B s ≤ C) (t s : Nat) (ht : t ≤ 24) : dA d B t s ≤ C + 199800 := by
  have := dV_b wf hB 25 (Nat.le_refl _) t s (by omega) ht
  unfold dA
  omega
-- which is begun: the first that comes to the most; 0 none
def dFs (d : Td) (V : Vt) (t s due : Nat) : Nat → Nat
  | 0 => 0
  | m + 1 => if dFs d V t s due m ≠ 0 then dFs d V t s due m else if (lCan d m s = true ∧ t + d (41 + m) ≤ 24) ∧ dBm d V m t s = due then m + 1 else 0
theorem dFs_le {d : Td} {V : Vt} {t s due : Nat} : ∀ m, dFs d V t s due m ≤ m
  | 0 => Nat.le_refl _
  | m + 1 => by
    have := dFs_le (d := d) (V := V) (t := t) (s := s) (due := due) m
    rw [dFs]
    split
    · omega
    · split <;> omega
theorem dFs_in {d : Td} {V : Vt} {t s due k : Nat} : ∀ m, dFs d V t s due m = k + 1 → k < m ∧ lCan d k s = true ∧ t + d (41 + k) ≤ 24
  | 0, h => by
    rw [dFs] at h
    omega
  | m + 1, h => by
    rw [dFs] at h
    split at h
    · have := dFs_in m h
      exact ⟨by omega, this.2⟩
    · split at h
      · rename_i q
        have : m = k := by omega
        subst this
        exact ⟨by omega, q.1⟩
      · omega
theorem dFs_no {d : Td} {V : Vt} {t s due : Nat} : ∀ m, dMf d V t s m < due → dFs d V t s due m = 0
  | 0, _ => rfl
  | m + 1, h => by
    rw [dMf] at h
    split at h
    · rename_i q
      rw [dFs, dFs_no m (by omega), if_neg (by omega), if_neg]
      rintro ⟨_, z⟩
      omega
    · rename_i q
      rw [dFs, dFs_no m h, if_neg (by omega), if_neg]
      rintro ⟨z, _⟩
      exact q z
/-- the developers' way of finding it -/
theorem dFs_st {d : Td} {V : Vt} {t s m : Nat} : dFs d V t s (dMf d V t s (m + 1)) (m + 1) = if (lCan d m s = true ∧ t + d (41 + m) ≤ 24) ∧ (dMf d V t s m < dBm d V m t s ∨ dBm d V m t s = dMf d V t s m ∧ dFs d V t s (dMf d V t s m) m = 0) then m + 1 else dFs d V t s (dMf d V t s m) m := by
  by_cases g : lCan d m s = true ∧ t + d (41 + m) ≤ 24
  · by_cases l : dMf d V t s m < dBm d V m t s
    · rw [if_pos ⟨g, Or.inl l⟩]
      have e : dMf d V t s (m + 1) = dBm d V m t s := by
        rw [dMf, if_pos g]
        omega
      rw [e, dFs, dFs_no m l, if_neg (by omega), if_pos ⟨g, rfl⟩]
    · have e : dMf d V t s (m + 1) = dMf d V t s m := by
        rw [dMf, if_pos g]
        omega
      rw [e, dFs]
      by_cases z : dFs d V t s (dMf d V t s m) m = 0
      · rw [if_neg (by omega)]
        by_cases q : dBm d V m t s = dMf d V t s m
        · rw [if_pos ⟨g, q⟩, if_pos ⟨g, Or.inr ⟨q, z⟩⟩]
        · rw [if_neg (fun y => q y.2), if_neg, z]
          rintro ⟨_, y | y⟩
          · exact l y
          · exact q y.1
      · rw [if_pos z, if_neg]
        rintro ⟨_, y | y⟩
        · exact l y
        · exact z y.2
  · have e : dMf d V t s (m + 1) = dMf d V t s m := by
      rw [dMf, if_neg g]
    rw [e, if_neg (fun y => g y.1), dFs]
    split
    · rfl
    · rename_i z
      rw [if_neg (fun y => g y.1)]
      omega
/-- one step of a DAY that is walked: from a time and a set on -/
def kBst (d : Td) (V : Vt) (p : Nat × Nat) : Nat := dFs d V p.1 (wT d p.1 p.2).1 (dMf d V p.1 (wT d p.1 p.2).1 (d 1)) (d 1)
def kNx (d : Td) (V : Vt) (p : Nat × Nat) : Nat × Nat := if kBst d V p = 0 then (p.1 + 1, (wT d p.1 p.2).1) else (p.1 + d (41 + (kBst d V p - 1)), (wR d (r_dif (wT d p.1 p.2).1 (d (65 + (kBst d V p - 1))), 0, 0) (p.1 + 1) (d (41 + (kBst d V p - 1)) - 1)).1 ||| 2 ^ d (29 + (kBst d V p - 1)))
def kTr (d : Td) (V : Vt) (p : Nat × Nat) : Nat → Nat × Nat
  | 0 => p
  | i + 1 => kNx d V (kTr d V p i)
theorem kNx_t {d : Td} (wf : Wf d) {V : Vt} {p : Nat × Nat} (h : p.1 < 24) : p.1 < (kNx d V p).1 ∧ (kNx d V p).1 ≤ 24 := by
  unfold kNx
  split
  · show p.1 < p.1 + 1 ∧ p.1 + 1 ≤ 24
    omega
  · rename_i q
    have h1 := dFs_in (d 1) (show kBst d V p = (kBst d V p - 1) + 1 by omega)
    have h2 := (wf.2.2.2.2.1 _ h1.1).2.1
    show p.1 < p.1 + _ ∧ p.1 + _ ≤ 24
    omega
theorem kNx_s {d : Td} (wf : Wf d) {V : Vt} {p : Nat × Nat} (h : p.2 < 2 ^ d 0) : (kNx d V p).2 < 2 ^ d 0 := by
  have h0 := wT_le d p.1 p.2
  unfold kNx
  split
  · show (wT d p.1 p.2).1 < _
    omega
  · rename_i q
    have h1 := dFs_in (d 1) (show kBst d V p = (kBst d V p - 1) + 1 by omega)
    have h2 := (wf.2.2.2.2.1 _ h1.1).1
    have h3 := wR_le d (r_dif (wT d p.1 p.2).1 (d (65 + (kBst d V p - 1))), 0, 0) (p.1 + 1) (d (41 + (kBst d V p - 1)) - 1)
    have h4 := r_dif_le (wT d p.1 p.2).1 (d (65 + (kBst d V p - 1)))
    exact r_or_lt (by simp only [] at h3; omega) (Nat.pow_lt_pow_right (by decide) h2)
