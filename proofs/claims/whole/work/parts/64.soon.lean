-- ONE BIT
theorem r_b1_f {s t : Nat} (h : s >>> t &&& 1 = 0) : s.testBit t = false := by
  have hq := r_bit_and1 s t
  cases hb : s.testBit t
  · rfl
  · rw [hb, if_pos rfl] at hq
    omega
theorem r_b1_t {s t : Nat} (h : s >>> t &&& 1 ≠ 0) : s.testBit t = true := by
  have hq := r_bit_and1 s t
  cases hb : s.testBit t
  · rw [hb, if_neg (by decide)] at hq
    omega
  · rfl
-- COUNTING
def cn (p : Nat → Bool) : Nat → Nat
  | 0 => 0
  | n + 1 => cn p n + if p n = true then 1 else 0
theorem cn_le (p : Nat → Bool) : ∀ n, cn p n ≤ n
  | 0 => Nat.le_refl _
  | n + 1 => by
    have := cn_le p n
    rw [cn]
    split <;> omega
theorem cn_mono {p q : Nat → Bool} : ∀ n, (∀ t, t < n → p t = true → q t = true) → cn p n ≤ cn q n
  | 0, _ => Nat.le_refl _
  | n + 1, h => by
    have h1 := cn_mono n (fun t ht => h t (by omega))
    have h2 := h n (by omega)
    rw [cn, cn]
    cases hp : p n
    · simp
      omega
    · rw [h2 hp]
      simp
      omega
theorem cn_lt {p q : Nat → Bool} : ∀ n, (∀ t, t < n → p t = true → q t = true) → (∃ t, t < n ∧ q t = true ∧ p t = false) → cn p n < cn q n
  | 0, _, h => by
    obtain ⟨t, ht, _⟩ := h
    omega
  | n + 1, h, h0 => by
    obtain ⟨t, ht, hq, hp⟩ := h0
    have h1 := cn_mono n (fun t ht => h t (by omega))
    rw [cn, cn]
    by_cases e : t = n
    · subst e
      rw [hq, hp]
      simp
      omega
    · have h2 := cn_lt n (fun t ht => h t (by omega)) ⟨t, by omega, hq, hp⟩
      have h3 := h n (by omega)
      cases hpn : p n
      · simp
        omega
      · rw [h3 hpn]
        simp
        omega
theorem cn_full {p : Nat → Bool} : ∀ n, cn p n = n → ∀ t, t < n → p t = true
  | 0, _, t, ht => by omega
  | n + 1, h, t, ht => by
    have h1 := cn_le p n
    rw [cn] at h
    have hp : p n = true := by
      cases hp : p n
      · rw [hp] at h
        simp at h
        omega
      · rfl
    rw [hp] at h
    simp at h
    by_cases e : t = n
    · rw [e]
      exact hp
    · exact cn_full n h t (by omega)
theorem cn_miss {p : Nat → Bool} {n t : Nat} (ht : t < n) (hp : p t = false) : cn p n < n := by
  have h1 := cn_le p n
  by_cases e : cn p n = n
  · have := cn_full n e t ht
    rw [hp] at this
    cases this
  · omega
-- SOONEST
def sNd (d : Td) (m : Nat) : Nat := d (65 + m) ||| d (77 + m)
def sLast (nd : Nat) (x : Nat → Nat) : Nat → Nat
  | 0 => 0
  | n + 1 => if nd.testBit n = true then max (sLast nd x n) (x n) else sLast nd x n
def sBy (d : Td) (x : Nat → Nat) (m : Nat) : Nat := min 1000000 (sLast (sNd d m) x (d 0) + d (41 + m))
def sUp (d : Td) (m : Nat) (x : Nat → Nat) : Nat → Nat := fun k => if k = d (29 + m) then min (x k) (sBy d x m) else x k
def sRow (d : Td) : Nat → (Nat → Nat) → Nat → Nat
  | 0, x => x
  | m + 1, x => sUp d m (sRow d m x)
def sRnd (d : Td) : Nat → (Nat → Nat) → Nat → Nat
  | 0, x => x
  | r + 1, x => sRow d (d 1) (sRnd d r x)
def sZ (s : Nat) : Nat → Nat := fun k => if s.testBit k = true then 0 else 1000000
def sT (d : Td) (s : Nat) : Nat → Nat := sRnd d (d 0) (sZ s)
theorem sLast_mono {nd : Nat} {x y : Nat → Nat} : ∀ n, (∀ k, k < n → nd.testBit k = true → x k ≤ y k) → sLast nd x n ≤ sLast nd y n
  | 0, _ => Nat.le_refl _
  | n + 1, h => by
    have h1 := sLast_mono n (fun k hk => h k (by omega))
    have h2 := h n (by omega)
    rw [sLast, sLast]
    cases hb : nd.testBit n
    · simpa using h1
    · have := h2 hb
      simp
      omega
theorem sLast_le {nd : Nat} {x : Nat → Nat} {k : Nat} (hb : nd.testBit k = true) : ∀ n, k < n → x k ≤ sLast nd x n
  | 0, h => by omega
  | n + 1, h => by
    rw [sLast]
    by_cases e : k = n
    · subst e
      rw [if_pos hb]
      omega
    · have := sLast_le (x := x) hb n (by omega)
      split <;> omega
theorem sLast_b {nd B : Nat} {x : Nat → Nat} : ∀ n, (∀ k, k < n → nd.testBit k = true → x k ≤ B) → sLast nd x n ≤ B
  | 0, _ => Nat.zero_le _
  | n + 1, h => by
    have h1 := sLast_b n (fun k hk => h k (by omega))
    have h2 := h n (by omega)
    rw [sLast]
    split
    · have := h2 (by assumption)
      omega
    · exact h1
theorem sBy_mono {d : Td} {x y : Nat → Nat} {m : Nat} (h : ∀ k, x k ≤ y k) : sBy d x m ≤ sBy d y m := by
  have := sLast_mono (nd := sNd d m) (d 0) (fun k _ _ => h k)
  unfold sBy
  omega
theorem sUp_le (d : Td) (m : Nat) (x : Nat → Nat) (k : Nat) : sUp d m x k ≤ x k := by
  unfold sUp
  split <;> omega
theorem sRow_le (d : Td) (x : Nat → Nat) (k : Nat) : ∀ m, sRow d m x k ≤ x k
  | 0 => Nat.le_refl _
  | m + 1 => Nat.le_trans (sUp_le d m _ k) (sRow_le d x k m)
theorem sRow_anti (d : Td) (x : Nat → Nat) (k m : Nat) : ∀ n, m ≤ n → sRow d n x k ≤ sRow d m x k
  | 0, h => by
    have : m = 0 := by omega
    subst this
    exact Nat.le_refl _
  | n + 1, h => by
    by_cases e : m = n + 1
    · subst e
      exact Nat.le_refl _
    · exact Nat.le_trans (sUp_le d n _ k) (sRow_anti d x k m n (by omega))
theorem sRnd_le (d : Td) (x : Nat → Nat) (k : Nat) : ∀ r, sRnd d r x k ≤ x k
  | 0 => Nat.le_refl _
  | r + 1 => Nat.le_trans (sRow_le d _ k _) (sRnd_le d x k r)
theorem sRnd_anti (d : Td) (x : Nat → Nat) (k r : Nat) : ∀ n, r ≤ n → sRnd d n x k ≤ sRnd d r x k
  | 0, h => by
    have : r = 0 := by omega
    subst this
    exact Nat.le_refl _
  | n + 1, h => by
    by_cases e : r = n + 1
    · subst e
      exact Nat.le_refl _
    · exact Nat.le_trans (sRow_le d _ k _) (sRnd_anti d x k r n (by omega))
theorem sRnd_in (d : Td) (x : Nat → Nat) : ∀ r, sRnd d r (sRow d (d 1) x) = sRnd d (r + 1) x
  | 0 => rfl
  | r + 1 => by
    rw [sRnd, sRnd_in d x r]
    rfl
theorem sUp_out {d : Td} {m : Nat} {x : Nat → Nat} {k : Nat} (h : k ≠ d (29 + m)) : sUp d m x k = x k := by
  unfold sUp
  rw [if_neg h]
theorem sRow_out {d : Td} (wf : Wf d) {x : Nat → Nat} {k : Nat} (hk : d 0 ≤ k) : ∀ m, m ≤ d 1 → sRow d m x k = x k
  | 0, _ => rfl
  | m + 1, h => by
    have := (wf.2.2.2.2.1 m (by omega)).1
    rw [sRow, sUp_out (by omega)]
    exact sRow_out wf hk m (by omega)
theorem sRnd_out {d : Td} (wf : Wf d) {x : Nat → Nat} {k : Nat} (hk : d 0 ≤ k) : ∀ r, sRnd d r x k = x k
  | 0 => rfl
  | r + 1 => by
    rw [sRnd, sRow_out wf hk _ (Nat.le_refl _)]
    exact sRnd_out wf hk r
theorem sRnd_fix {d : Td} {x : Nat → Nat} {r : Nat} (h : sRnd d (r + 1) x = sRnd d r x) : ∀ i, sRnd d (r + i) x = sRnd d r x
  | 0 => rfl
  | i + 1 => by
    rw [show r + (i + 1) = (r + i) + 1 from rfl, sRnd, sRnd_fix h i]
    exact h
def sum8 (x : Nat → Nat) : Nat := x 0 + x 1 + x 2 + x 3 + x 4 + x 5 + x 6 + x 7
theorem sum8_lt {x y : Nat → Nat} (h : ∀ k, y k ≤ x k) {t : Nat} (ht : t < 8) (hl : y t < x t) : sum8 y < sum8 x := by
  have h0 := h 0
  have h1 := h 1
  have h2 := h 2
  have h3 := h 3
  have h4 := h 4
  have h5 := h 5
  have h6 := h 6
  have h7 := h 7
  unfold sum8
  have c : t = 0 ∨ t = 1 ∨ t = 2 ∨ t = 3 ∨ t = 4 ∨ t = 5 ∨ t = 6 ∨ t = 7 := by omega
  rcases c with c | c | c | c | c | c | c | c <;> subst c <;> omega
theorem sRow_eq_or {d : Td} (wf : Wf d) (x : Nat → Nat) : sRow d (d 1) x = x ∨ ∃ t, t < 8 ∧ sRow d (d 1) x t < x t := by
  by_cases h : ∃ t, t < 8 ∧ sRow d (d 1) x t < x t
  · exact Or.inr h
  · left
    funext k
    by_cases hk : d 0 ≤ k
    · exact sRow_out wf hk _ (Nat.le_refl _)
    · have := wf.1.1
      have h2 := sRow_le d x k (d 1)
      by_cases h3 : sRow d (d 1) x k < x k
      · exact absurd ⟨k, by omega, h3⟩ h
      · omega
theorem s_ex {d : Td} (wf : Wf d) : ∀ (w : Nat) (x : Nat → Nat), sum8 x = w → ∃ j, sRnd d (j + 1) x = sRnd d j x := by
  intro w
  induction w using Nat.strongRecOn with
  | ind w ih =>
    intro x hw
    rcases sRow_eq_or wf x with h | ⟨t, ht, hl⟩
    · exact ⟨0, h⟩
    · obtain ⟨j, hj⟩ := ih (sum8 (sRow d (d 1) x)) (hw ▸ sum8_lt (fun k => sRow_le d x k _) ht hl) _ rfl
      rw [sRnd_in, sRnd_in] at hj
      exact ⟨j + 1, hj⟩
/-- where it is not as it began, a MAKING gives it by then -/
def sInv (d : Td) (z x : Nat → Nat) : Prop := ∀ t, x t = z t ∨ ∃ m, m < d 1 ∧ d (29 + m) = t ∧ sBy d x m ≤ x t
theorem sInv_up {d : Td} {z x : Nat → Nat} {m : Nat} (hm : m < d 1) (h : sInv d z x) : sInv d z (sUp d m x) := by
  intro t
  have hle := sUp_le d m x
  by_cases e : sUp d m x t = x t
  · rcases h t with h1 | ⟨m', h1, h2, h3⟩
    · left
      rw [e, h1]
    · right
      refine ⟨m', h1, h2, ?_⟩
      rw [e]
      exact Nat.le_trans (sBy_mono hle) h3
  · right
    have et : t = d (29 + m) := by
      by_cases q : t = d (29 + m)
      · exact q
      · exact absurd (sUp_out q) e
    refine ⟨m, hm, et.symm, ?_⟩
    have h1 := sBy_mono (d := d) (m := m) hle
    have h2 : sUp d m x t = min (x t) (sBy d x m) := by
      unfold sUp
      rw [if_pos et]
    have h3 := hle t
    omega
theorem sInv_row {d : Td} {z x : Nat → Nat} (h : sInv d z x) : ∀ m, m ≤ d 1 → sInv d z (sRow d m x)
  | 0, _ => h
  | m + 1, hm => sInv_up (by omega) (sInv_row h m (by omega))
theorem sInv_rnd {d : Td} {z : Nat → Nat} : ∀ r, sInv d z (sRnd d r z)
  | 0 => fun _ => Or.inl rfl
  | r + 1 => sInv_row (sInv_rnd r) _ (Nat.le_refl _)
/-- one more is settled by each round -/
theorem s_one {d : Td} (wf : Wf d) {z V : Nat → Nat} {r j : Nat} (hz : ∀ k, z k ≤ 1000000) (hV : V = sRnd d j z) (hf : sRnd d (j + 1) z = sRnd d j z) (hle : ∀ r k, V k ≤ sRnd d r z k) : ∀ (v t : Nat), V t = v → sRnd d r z t ≠ V t → ∃ t', sRnd d r z t' ≠ V t' ∧ sRnd d (r + 1) z t' = V t' := by
  intro v
  induction v using Nat.strongRecOn with
  | ind v ih =>
    intro t hv hne
    have h1 := hle r t
    have h2 := sRnd_le d z t r
    have h3 := hz t
    have hi := sInv_rnd (d := d) (z := z) j t
    rw [← hV] at hi
    rcases hi with hi | ⟨m, hm, hg, hb⟩
    · omega
    · have hw := wf.2.2.2.2.1 m hm
      by_cases hn : ∀ k, k < d 0 → (sNd d m).testBit k = true → sRnd d r z k = V k
      · refine ⟨t, hne, ?_⟩
        have h4 : sRnd d (r + 1) z t ≤ sUp d m (sRow d m (sRnd d r z)) t := sRow_anti d (sRnd d r z) t (m + 1) (d 1) (by omega)
        have h5 : sUp d m (sRow d m (sRnd d r z)) t ≤ sBy d (sRow d m (sRnd d r z)) m := by
          unfold sUp
          rw [if_pos hg.symm]
          omega
        have h6 : sLast (sNd d m) (sRow d m (sRnd d r z)) (d 0) ≤ sLast (sNd d m) V (d 0) := sLast_mono (d 0) (fun k hk hb2 => by
          have := sRow_le d (sRnd d r z) k m
          have := hn k hk hb2
          omega)
        have h7 : sBy d (sRow d m (sRnd d r z)) m ≤ sBy d V m := by
          unfold sBy
          omega
        have h8 := hle (r + 1) t
        omega
      · have hn2 : ∃ k, k < d 0 ∧ (sNd d m).testBit k = true ∧ sRnd d r z k ≠ V k := by
          apply Classical.byContradiction
          intro q
          refine hn (fun k hk hb2 => ?_)
          apply Classical.byContradiction
          intro q2
          exact q ⟨k, hk, hb2, q2⟩
        obtain ⟨k, hk, hb2, hne2⟩ := hn2
        have h4 := sLast_le (x := V) hb2 (d 0) hk
        have h5 : sBy d V m = min 1000000 (sLast (sNd d m) V (d 0) + d (41 + m)) := rfl
        exact ih (V k) (by omega) k rfl hne2
/-- as many rounds as THINGS settle all -/
theorem s_fix {d : Td} (wf : Wf d) {z : Nat → Nat} (hz : ∀ k, z k ≤ 1000000) : sRnd d (d 0 + 1) z = sRnd d (d 0) z := by
  obtain ⟨j, hf⟩ := s_ex wf _ z rfl
  have hle : ∀ r k, sRnd d j z k ≤ sRnd d r z k := by
    intro r k
    by_cases h : r ≤ j
    · exact sRnd_anti d z k r j h
    · have := sRnd_fix hf (r - j)
      rw [show j + (r - j) = r by omega] at this
      rw [this]
      exact Nat.le_refl _
  have ne : ∀ r, sRnd d r z ≠ sRnd d j z → ∃ t, sRnd d r z t ≠ sRnd d j z t := by
    intro r hr
    apply Classical.byContradiction
    intro q
    refine hr (funext fun t => ?_)
    apply Classical.byContradiction
    intro q2
    exact q ⟨t, q2⟩
  have lt0 : ∀ r t, sRnd d r z t ≠ sRnd d j z t → t < d 0 := by
    intro r t h
    apply Classical.byContradiction
    intro q
    rw [sRnd_out wf (by omega), sRnd_out wf (by omega)] at h
    exact h rfl
  have all : ∀ r, sRnd d r z = sRnd d j z ∨ r ≤ cn (fun t => decide (sRnd d r z t = sRnd d j z t)) (d 0) := by
    intro r
    induction r with
    | zero => exact Or.inr (Nat.zero_le _)
    | succ r ih =>
      by_cases e : sRnd d (r + 1) z = sRnd d j z
      · exact Or.inl e
      · right
        have e2 : sRnd d r z ≠ sRnd d j z := by
          intro q
          apply e
          funext t
          have a := hle (r + 1) t
          have b := sRnd_anti d z t r (r + 1) (by omega)
          rw [q] at b
          omega
        rcases ih with h | h
        · exact absurd h e2
        · obtain ⟨t, ht⟩ := ne r e2
          obtain ⟨t', h1, h2⟩ := s_one wf (r := r) hz rfl hf hle _ t rfl ht
          have := cn_lt (p := fun t => decide (sRnd d r z t = sRnd d j z t)) (q := fun t => decide (sRnd d (r + 1) z t = sRnd d j z t)) (d 0) (fun t _ hp => by
            have hp := of_decide_eq_true hp
            have a := hle (r + 1) t
            have b := sRnd_anti d z t r (r + 1) (by omega)
            exact decide_eq_true (by omega)) ⟨t', lt0 r t' h1, decide_eq_true h2, decide_eq_false h1⟩
          omega
  have fin : sRnd d (d 0) z = sRnd d j z := by
    rcases all (d 0) with h | h
    · exact h
    · apply Classical.byContradiction
      intro q
      obtain ⟨t, ht⟩ := ne _ q
      have := cn_miss (p := fun t => decide (sRnd d (d 0) z t = sRnd d j z t)) (lt0 _ t ht) (decide_eq_false ht)
      omega
  rw [sRnd, fin]
  exact hf
theorem sZ_le (s k : Nat) : sZ s k ≤ 1000000 := by
  unfold sZ
  split <;> omega
/-- a round that changes nothing has found it -/
theorem s_found {d : Td} (wf : Wf d) {s r : Nat} (h : sRnd d (r + 1) (sZ s) = sRnd d r (sZ s)) (hr : r ≤ d 0) : sRnd d r (sZ s) = sT d s := by
  have := sRnd_fix h (d 0 - r)
  rw [show r + (d 0 - r) = d 0 by omega] at this
  exact this.symm
theorem sUp_b {d : Td} (wf : Wf d) {x : Nat → Nat} {m B : Nat} (hm : m < d 1) (h : ∀ k, x k < 1000000 → x k ≤ B) : ∀ k, sUp d m x k < 1000000 → sUp d m x k ≤ B + 24 := by
  intro k hk
  have hw := wf.2.2.2.2.1 m hm
  have h1 := h k
  have hu : sUp d m x k = if k = d (29 + m) then min (x k) (sBy d x m) else x k := rfl
  by_cases e : k = d (29 + m)
  · rw [if_pos e] at hu
    by_cases hx : x k ≤ sBy d x m
    · omega
    · have hs : sBy d x m = min 1000000 (sLast (sNd d m) x (d 0) + d (41 + m)) := rfl
      have hl : sLast (sNd d m) x (d 0) ≤ B := sLast_b (d 0) (fun k2 hk2 hb => by
        have := sLast_le (x := x) hb (d 0) hk2
        exact h k2 (by omega))
      omega
  · rw [if_neg e] at hu
    omega
theorem sRow_b {d : Td} (wf : Wf d) {x : Nat → Nat} {B : Nat} (h : ∀ k, x k < 1000000 → x k ≤ B) : ∀ m, m ≤ d 1 → ∀ k, sRow d m x k < 1000000 → sRow d m x k ≤ B + 24 * m
  | 0, _ => h
  | m + 1, hm => fun k hk => by
    have := sUp_b wf (x := sRow d m x) (m := m) (B := B + 24 * m) (by omega) (sRow_b wf h m (by omega)) k hk
    rw [sRow]
    omega
theorem sRnd_b {d : Td} (wf : Wf d) {s : Nat} : ∀ r k, sRnd d r (sZ s) k < 1000000 → sRnd d r (sZ s) k ≤ 288 * r
  | 0 => fun k hk => by
    rw [sRnd] at hk ⊢
    unfold sZ at hk ⊢
    split at hk
    · simp [*]
    · omega
  | r + 1 => fun k hk => by
    have := sRow_b wf (x := sRnd d r (sZ s)) (B := 288 * r) (fun k => sRnd_b wf r k) (d 1) (Nat.le_refl _) k hk
    have := wf.1.2.1
    rw [sRnd]
    omega
theorem sT_b {d : Td} (wf : Wf d) {s k : Nat} (h : sT d s k < 1000000) : sT d s k ≤ 2304 := by
  have := sRnd_b wf (s := s) (d 0) k h
  have := wf.1.1
  have e : sT d s k = sRnd d (d 0) (sZ s) k := rfl
  omega
theorem sT_le (d : Td) (s k : Nat) : sT d s k ≤ 1000000 := Nat.le_trans (sRnd_le d (sZ s) k (d 0)) (sZ_le s k)
theorem sT_set {d : Td} {s k : Nat} (h : s.testBit k = true) : sT d s k = 0 := by
  have h1 := sRnd_le d (sZ s) k (d 0)
  have h2 : sZ s k = 0 := by
    unfold sZ
    rw [if_pos h]
  have e : sT d s k = sRnd d (d 0) (sZ s) k := rfl
  omega
theorem sT_fix {d : Td} (wf : Wf d) (s : Nat) : sRow d (d 1) (sT d s) = sT d s := s_fix wf (sZ_le s)
theorem sT_by {d : Td} (wf : Wf d) {s m : Nat} (hm : m < d 1) : sT d s (d (29 + m)) ≤ sBy d (sT d s) m := by
  have h1 := sT_fix wf s
  have h2 : ∀ n, n ≤ d 1 → sRow d n (sT d s) = sT d s := fun n hn => funext fun k => by
    have a := sRow_anti d (sT d s) k n (d 1) hn
    have b := sRow_le d (sT d s) k n
    rw [h1] at a
    omega
  have h3 := congrFun (h2 (m + 1) (by omega)) (d (29 + m))
  rw [sRow, h2 m (by omega)] at h3
  unfold sUp at h3
  rw [if_pos rfl] at h3
  omega
theorem sT_inv {d : Td} (s t : Nat) (hs : s.testBit t = false) (h : sT d s t < 1000000) : ∃ m, m < d 1 ∧ d (29 + m) = t ∧ sBy d (sT d s) m ≤ sT d s t := by
  rcases sInv_rnd (d := d) (z := sZ s) (d 0) t with h1 | h1
  · exfalso
    have e : sT d s t = sRnd d (d 0) (sZ s) t := rfl
    have h2 : sZ s t = 1000000 := by
      unfold sZ
      rw [hs]
      rfl
    omega
  · exact h1
-- BY WHICH MAKING
def sOk (d : Td) (x : Nat → Nat) (t m : Nat) : Bool := decide (d (29 + m) = t ∧ x t < 1000000 ∧ sBy d x m = x t)
/-- the first MAKING of those from m on, so many: 0 none, k + 1 number k -/
def sFm (d : Td) (x : Nat → Nat) (t : Nat) : Nat → Nat → Nat
  | 0, _ => 0
  | j + 1, m => if sOk d x t m = true then m + 1 else sFm d x t j (m + 1)
def sFirst (d : Td) (x : Nat → Nat) (t : Nat) : Nat := sFm d x t (d 1) 0
theorem sFm_le {d : Td} {x : Nat → Nat} {t : Nat} : ∀ j m, sFm d x t j m ≤ m + j
  | 0, m => Nat.zero_le _
  | j + 1, m => by
    rw [sFm]
    split
    · omega
    · have := sFm_le (d := d) (x := x) (t := t) j (m + 1)
      omega
theorem sFm_ok {d : Td} {x : Nat → Nat} {t : Nat} : ∀ j m k, sFm d x t j m = k + 1 → k < m + j ∧ sOk d x t k = true
  | 0, m, k, h => by
    rw [sFm] at h
    omega
  | j + 1, m, k, h => by
    rw [sFm] at h
    split at h
    · have : m = k := by omega
      subst this
      exact ⟨by omega, by assumption⟩
    · have := sFm_ok j (m + 1) k h
      exact ⟨by omega, this.2⟩
theorem sFm_none {d : Td} {x : Nat → Nat} {t : Nat} : ∀ j m, sFm d x t j m = 0 → ∀ k, m ≤ k → k < m + j → sOk d x t k = false
  | 0, m, h, k, h1, h2 => by omega
  | j + 1, m, h, k, h1, h2 => by
    rw [sFm] at h
    split at h
    · omega
    · rename_i hq
      by_cases e : m = k
      · subst e
        simpa using hq
      · exact sFm_none j (m + 1) h k (by omega) (by omega)
theorem sFirst_ok {d : Td} {x : Nat → Nat} {t k : Nat} (h : sFirst d x t = k + 1) : k < d 1 ∧ d (29 + k) = t ∧ x t < 1000000 ∧ sBy d x k = x t := by
  have := sFm_ok _ _ _ h
  exact ⟨by omega, of_decide_eq_true this.2⟩
theorem sFirst_ex {d : Td} (wf : Wf d) {s t : Nat} (hs : s.testBit t = false) (h : sT d s t < 1000000) : sFirst d (sT d s) t ≠ 0 := by
  intro q
  obtain ⟨m, hm, hg, hb⟩ := sT_inv s t hs h
  have h1 := sT_by wf (s := s) hm
  rw [hg] at h1
  have h2 := sFm_none _ _ q m (Nat.zero_le _) (by omega)
  exact absurd (⟨hg, h, by omega⟩ : d (29 + m) = t ∧ sT d s t < 1000000 ∧ sBy d (sT d s) m = sT d s t) (of_decide_eq_false h2)
theorem sOk_set {d : Td} (wf : Wf d) {s t m : Nat} (hs : s.testBit t = true) (hm : m < d 1) : sOk d (sT d s) t m = false := by
  have h1 := sT_set (d := d) hs
  have h2 := wf.2.2.2.2.1 m hm
  refine decide_eq_false (fun q => ?_)
  have e : sBy d (sT d s) m = min 1000000 (sLast (sNd d m) (sT d s) (d 0) + d (41 + m)) := rfl
  omega
theorem sFirst_set {d : Td} (wf : Wf d) {s t : Nat} (hs : s.testBit t = true) : ∀ j m, m + j ≤ d 1 → sFm d (sT d s) t j m = 0
  | 0, m, _ => rfl
  | j + 1, m, h => by
    rw [sFm, sOk_set wf hs (by omega)]
    simp
    exact sFirst_set wf hs j (m + 1) (by omega)
/-- what it needs comes ahead of it -/
theorem sFirst_need {d : Td} (wf : Wf d) {x : Nat → Nat} {t m k : Nat} (h : sFirst d x t = m + 1) (hk : k < d 0) (hb : (sNd d m).testBit k = true) : x k < x t := by
  obtain ⟨h1, h2, h3, h4⟩ := sFirst_ok h
  have h5 := wf.2.2.2.2.1 m h1
  have h6 := sLast_le (x := x) hb (d 0) hk
  have e : sBy d x m = min 1000000 (sLast (sNd d m) x (d 0) + d (41 + m)) := rfl
  omega
/-- of what is needed the first that is there last: 0 none, k + 1 number k -/
def sLn (x : Nat → Nat) (nd : Nat) : Nat → Nat
  | 0 => 0
  | k + 1 => if nd.testBit k = true ∧ (sLn x nd k = 0 ∨ x (sLn x nd k - 1) < x k) then k + 1 else sLn x nd k
theorem sLn_le (x : Nat → Nat) (nd : Nat) : ∀ n, sLn x nd n ≤ n
  | 0 => Nat.le_refl _
  | n + 1 => by
    have := sLn_le x nd n
    rw [sLn]
    split <;> omega
def g_soonest (d : Td) (t s : Int32) : Int32 × Nat := if ¬ ((0 ≤ t.toInt ∧ t.toInt < d 0) ∧ 0 ≤ s.toInt ∧ s.toInt < ((2 ^ d 0 : Nat) : Int)) then (-1, 2) else if sT d s.toInt.toNat t.toInt.toNat ≤ 24 then (nI (sT d s.toInt.toNat t.toInt.toNat), 0) else (-1, 9)
def g_bars (d : Td) (t s w : Int32) : Int32 × Nat := if ¬ ((0 ≤ t.toInt ∧ t.toInt < d 0) ∧ 0 ≤ s.toInt ∧ s.toInt < ((2 ^ d 0 : Nat) : Int)) then (-1, 2) else if ¬ (0 ≤ w.toInt ∧ w.toInt ≤ 1) then (-1, 5) else
  if sFirst d (sT d s.toInt.toNat) t.toInt.toNat = 0 then (-1, 8) else if w.toInt = 0 then (nM (sFirst d (sT d s.toInt.toNat) t.toInt.toNat), 0) else
  if sLn (sT d s.toInt.toNat) (sNd d (sFirst d (sT d s.toInt.toNat) t.toInt.toNat - 1)) (d 0) = 0 then (-1, 8) else (nM (sLn (sT d s.toInt.toNat) (sNd d (sFirst d (sT d s.toInt.toNat) t.toInt.toNat - 1)) (d 0)), 0)
