-- LABOUR
def lMade (d : Td) (m s : Nat) : Nat := r_dif s (d (65 + m)) ||| 2 ^ d (29 + m)
def lCan (d : Td) (m s : Nat) : Bool := decide (d (53 + m) = 1) && decide (r_dif (sNd d m) s = 0)
def lR (d : Td) (z : Nat) : Nat → Nat → Nat → Prop
  | 0, s, c => s = z ∧ c = 0
  | n + 1, s, c => ∃ s' c' m, lR d z n s' c' ∧ m < d 1 ∧ lCan d m s' = true ∧ s = lMade d m s' ∧ c = c' + d (41 + m)
def lA (d : Td) (w z v : Nat) : Prop := (v = 0 ∧ ∀ n s c, lR d z n s c → ¬ r_dif w s = 0) ∨ ∃ c, v = c + 1 ∧ (∃ n s, lR d z n s c ∧ r_dif w s = 0) ∧ ∀ n s c', lR d z n s c' → r_dif w s = 0 → c ≤ c'
theorem lA_u {d : Td} {w z v v' : Nat} (h : lA d w z v) (h' : lA d w z v') : v = v' := by
  rcases h with ⟨h1, h2⟩ | ⟨c, h1, ⟨n, s, h2, h3⟩, h4⟩
  · rcases h' with ⟨g1, g2⟩ | ⟨c', g1, ⟨n', s', g2, g3⟩, g4⟩
    · omega
    · exact absurd g3 (h2 n' s' c' g2)
  · rcases h' with ⟨g1, g2⟩ | ⟨c', g1, ⟨n', s', g2, g3⟩, g4⟩
    · exact absurd h3 (g2 n s c h2)
    · have a := h4 n' s' c' g2 g3
      have b := g4 n s c h2 h3
      omega
noncomputable def lV (d : Td) (w z : Nat) : Nat := by
  classical exact if h : ∃ v, lA d w z v then Classical.choose h else 0
theorem lV_of {d : Td} {w z v : Nat} (h : lA d w z v) : lV d w z = v := by
  have hx : ∃ v, lA d w z v := ⟨v, h⟩
  unfold lV
  rw [dif_pos hx]
  exact lA_u (Classical.choose_spec hx) h
theorem lMade_lt {d : Td} (wf : Wf d) {m s : Nat} (hm : m < d 1) (hs : s < 2 ^ d 0) : lMade d m s < 2 ^ d 0 :=
  r_or_lt (r_dif_lt hs) (Nat.pow_lt_pow_right (by decide) (wf.2.2.2.2.1 m hm).1)
/-- all that stands there has a way -/
def lReal (d : Td) (z : Nat) (L : Nat → Nat) : Prop := ∀ s c, L s = c + 1 → s < 2 ^ d 0 ∧ ∃ n, lR d z n s c
def lCl (d : Td) (L : Nat → Nat) (s m : Nat) : Prop := ∀ c, L s = c + 1 → lCan d m s = true → ∃ c2, L (lMade d m s) = c2 + 1 ∧ c2 ≤ c + d (41 + m)
theorem lReal_z {d : Td} {z : Nat} (hz : z < 2 ^ d 0) : lReal d z (fun k => if k = z then 1 else 0) := by
  intro s c h
  by_cases e : s = z
  · subst e
    simp at h
    exact ⟨hz, 0, rfl, by omega⟩
  · simp [e] at h
theorem lReal_up {d : Td} (wf : Wf d) {z : Nat} {L L' : Nat → Nat} {s m c : Nat} (h : lReal d z L) (hs : L s = c + 1) (hm : m < d 1) (hc : lCan d m s = true) (hL : ∀ k, L' k = L k ∨ (k = lMade d m s ∧ L' k = c + d (41 + m) + 1)) : lReal d z L' := by
  intro k c2 hk
  obtain ⟨h1, n, h2⟩ := h s c hs
  rcases hL k with e | ⟨e1, e2⟩
  · exact h k c2 (e ▸ hk)
  · subst e1
    exact ⟨lMade_lt wf hm h1, n + 1, s, c, m, h2, hm, hc, rfl, by omega⟩
-- the reference's end
theorem lP_all {d : Td} {z : Nat} {L : Nat → Nat} (h0 : L z = 1) (hc : ∀ s m, m < d 1 → lCl d L s m) : ∀ n s c, lR d z n s c → ∃ c1, L s = c1 + 1 ∧ c1 ≤ c
  | 0, s, c, h => by
    obtain ⟨h1, h2⟩ := h
    subst h1
    exact ⟨0, h0, by omega⟩
  | n + 1, s, c, h => by
    obtain ⟨s', c', m, h1, h2, h3, h4, h5⟩ := h
    obtain ⟨c1, e1, e2⟩ := lP_all h0 hc n s' c' h1
    obtain ⟨c2, e3, e4⟩ := hc s' m h2 c1 e1 h3
    exact ⟨c2, h4 ▸ e3, by omega⟩
def lMin (L : Nat → Nat) (w : Nat) : Nat → Nat
  | 0 => 0
  | p + 1 => if r_dif w p = 0 ∧ L p ≠ 0 ∧ (lMin L w p = 0 ∨ L p < lMin L w p) then L p else lMin L w p
theorem lMin_in {L : Nat → Nat} {w : Nat} : ∀ p, lMin L w p ≠ 0 → ∃ s, s < p ∧ r_dif w s = 0 ∧ L s = lMin L w p
  | 0, h => absurd rfl h
  | p + 1, h => by
    rw [lMin] at h ⊢
    split
    · rename_i q
      exact ⟨p, by omega, q.1, rfl⟩
    · rename_i q
      rw [if_neg q] at h
      obtain ⟨s, h1, h2, h3⟩ := lMin_in p h
      exact ⟨s, by omega, h2, h3⟩
theorem lMin_le {L : Nat → Nat} {w : Nat} : ∀ p s, s < p → r_dif w s = 0 → L s ≠ 0 → lMin L w p ≠ 0 ∧ lMin L w p ≤ L s
  | 0, s, h, _, _ => by omega
  | p + 1, s, h, h1, h2 => by
    rw [lMin]
    by_cases e : s = p
    · subst e
      split
      · exact ⟨h2, Nat.le_refl _⟩
      · rename_i q
        constructor
        · intro z
          exact q ⟨h1, h2, Or.inl z⟩
        · apply Nat.le_of_not_lt
          intro z
          exact q ⟨h1, h2, Or.inr z⟩
    · obtain ⟨a, b⟩ := lMin_le p s (by omega) h1 h2
      split
      · rename_i q
        refine ⟨q.2.1, ?_⟩
        rcases q.2.2 with z | z <;> omega
      · exact ⟨a, b⟩
theorem lMin_A {d : Td} {w z : Nat} {L : Nat → Nat} (h0 : L z = 1) (hr : lReal d z L) (hc : ∀ s m, m < d 1 → lCl d L s m) : lA d w z (lMin L w (2 ^ d 0)) := by
  have all := lP_all h0 hc
  by_cases h : lMin L w (2 ^ d 0) = 0
  · left
    refine ⟨h, fun n s c hR hw => ?_⟩
    obtain ⟨c1, e1, e2⟩ := all n s c hR
    exact (lMin_le (2 ^ d 0) s (hr s c1 e1).1 hw (by omega)).1 h
  · right
    obtain ⟨s, h1, h2, h3⟩ := lMin_in _ h
    refine ⟨lMin L w (2 ^ d 0) - 1, by omega, ?_, fun n s' c' hR hw => ?_⟩
    · obtain ⟨_, n, hn⟩ := hr s (lMin L w (2 ^ d 0) - 1) (by omega)
      exact ⟨n, s, hn, h2⟩
    · obtain ⟨c1, e1, e2⟩ := all n s' c' hR
      have := (lMin_le (L := L) (2 ^ d 0) s' (hr s' c1 e1).1 hw (by omega)).2
      omega
-- what the reference's sweeps lose
theorem sm_le2 {f g : Nat → Nat} : ∀ n, (∀ k, k < n → f k ≤ g k) → sm f n ≤ sm g n
  | 0, _ => Nat.le_refl _
  | n + 1, h => by
    have := sm_le2 n (fun k hk => h k (by omega))
    have := h n (by omega)
    rw [sm, sm]
    omega
theorem sm_lt {f g : Nat → Nat} {t : Nat} : ∀ n, (∀ k, k < n → f k ≤ g k) → t < n → f t < g t → sm f n < sm g n
  | 0, _, ht, _ => by omega
  | n + 1, h, ht, hl => by
    have h1 := sm_le2 n (fun k hk => h k (by omega))
    have h2 := h n (by omega)
    rw [sm, sm]
    by_cases e : t = n
    · subst e
      omega
    · have := sm_lt n (fun k hk => h k (by omega)) (show t < n by omega) hl
      omega
def lPhi (L : Nat → Nat) : Nat := sm (fun k => if L k = 0 then 10000 else L k) 256
def lB (L : Nat → Nat) : Prop := ∀ k, k < 256 → L k ≤ 24 * cn (fun s => decide (L s ≠ 0)) 256 + 1
theorem lB_le {L : Nat → Nat} (h : lB L) {k : Nat} (hk : k < 256) : L k ≤ 6145 := by
  have h1 := h k hk
  have h2 := cn_le (fun s => decide (L s ≠ 0)) 256
  omega
theorem lB_up {L L' : Nat → Nat} {s t h : Nat} (hB : lB L) (hs : s < 256) (ht : t < 256) (h0 : L s ≠ 0) (hh : h ≤ 24) (hl : L t = 0 ∨ L s + h < L t) (e : ∀ k, L' k = if k = t then L s + h else L k) : lB L' := by
  have mono : ∀ k, k < 256 → decide (L k ≠ 0) = true → decide (L' k ≠ 0) = true := fun k _ hk => by
    have hk := of_decide_eq_true hk
    refine decide_eq_true ?_
    rw [e]
    split <;> omega
  have hm := cn_mono (p := fun s => decide (L s ≠ 0)) (q := fun s => decide (L' s ≠ 0)) 256 mono
  intro k hk
  have b1 := hB k hk
  have b2 := hB s hs
  have b3 := hB t ht
  rw [e]
  split
  · rename_i ek
    rcases hl with hl | hl
    · have h2 := cn_lt (p := fun s => decide (L s ≠ 0)) (q := fun s => decide (L' s ≠ 0)) 256 mono ⟨t, ht, decide_eq_true (by rw [e, if_pos rfl]; omega), decide_eq_false (by omega)⟩
      omega
    · omega
  · omega
theorem lPhi_up {L L' : Nat → Nat} {s t h : Nat} (hB : lB L) (hs : s < 256) (ht : t < 256) (hh : h ≤ 24) (hl : L t = 0 ∨ L s + h < L t) (h0 : L s ≠ 0) (e : ∀ k, L' k = if k = t then L s + h else L k) : lPhi L' < lPhi L := by
  have b2 := lB_le hB hs
  refine sm_lt (t := t) 256 (fun k _ => ?_) ht ?_
  · show (if L' k = 0 then 10000 else L' k) ≤ (if L k = 0 then 10000 else L k)
    rw [e]
    by_cases ek : k = t
    · subst ek
      rw [if_pos rfl, if_neg (by omega)]
      split <;> omega
    · rw [if_neg ek]
      exact Nat.le_refl _
  · show (if L' t = 0 then 10000 else L' t) < (if L t = 0 then 10000 else L t)
    rw [e, if_pos rfl, if_neg (by omega)]
    split <;> omega
-- the developers' way: one after another is settled
def lD (d : Td) (w z i : Nat) (L : Nat → Nat) (T : Nat → Bool) : Prop := lReal d z L ∧ L z = 1 ∧ (∀ s, T s = true → s < 2 ^ d 0 ∧ L s ≠ 0 ∧ ¬ r_dif w s = 0 ∧ ∀ m, m < d 1 → lCl d L s m) ∧ (∀ s s', T s = true → T s' = false → L s' ≠ 0 → L s ≤ L s') ∧ (∀ s, L s ≤ 24 * i + 1) ∧ cn T (2 ^ d 0) = i
theorem lP_some {d : Td} {w z i : Nat} {L : Nat → Nat} {T : Nat → Bool} (h : lD d w z i L T) : ∀ n s c, lR d z n s c → (∃ c1, L s = c1 + 1 ∧ c1 ≤ c) ∨ ∃ u c1, T u = false ∧ L u = c1 + 1 ∧ c1 ≤ c
  | 0, s, c, hR => by
    obtain ⟨h1, h2⟩ := hR
    subst h1
    exact Or.inl ⟨0, h.2.1, by omega⟩
  | n + 1, s, c, hR => by
    obtain ⟨s', c', m, h1, h2, h3, h4, h5⟩ := hR
    rcases lP_some h n s' c' h1 with ⟨c1, e1, e2⟩ | ⟨u, c1, e0, e1, e2⟩
    · cases hT : T s'
      · exact Or.inr ⟨s', c1, hT, e1, by omega⟩
      · obtain ⟨c2, e3, e4⟩ := (h.2.2.1 s' hT).2.2.2 m h2 c1 e1 h3
        exact Or.inl ⟨c2, h4 ▸ e3, by omega⟩
    · exact Or.inr ⟨u, c1, e0, e1, by omega⟩
/-- nothing is open any more -/
theorem lD_none {d : Td} {w z i : Nat} {L : Nat → Nat} {T : Nat → Bool} (h : lD d w z i L T) (hn : ∀ s, s < 2 ^ d 0 → L s ≠ 0 → T s = true) : lA d w z 0 := by
  refine Or.inl ⟨rfl, fun n s c hR hw => ?_⟩
  rcases lP_some h n s c hR with ⟨c1, e1, e2⟩ | ⟨u, c1, e0, e1, e2⟩
  · have := hn s (h.1 s c1 e1).1 (by omega)
    exact (h.2.2.1 s this).2.2.1 hw
  · have := hn u (h.1 u c1 e1).1 (by omega)
    rw [e0] at this
    cases this
/-- the soonest that is open has all that is wanted -/
theorem lD_found {d : Td} {w z i s c : Nat} {L : Nat → Nat} {T : Nat → Bool} (h : lD d w z i L T) (hs : L s = c + 1) (hw : r_dif w s = 0) (hn : ∀ s', s' < 2 ^ d 0 → L s' ≠ 0 → T s' = false → L s ≤ L s') : lA d w z (c + 1) := by
  obtain ⟨h1, n, h2⟩ := h.1 s c hs
  refine Or.inr ⟨c, rfl, ⟨n, s, h2, hw⟩, fun n' s' c' hR hw' => ?_⟩
  rcases lP_some h n' s' c' hR with ⟨c1, e1, e2⟩ | ⟨u, c1, e0, e1, e2⟩
  · cases hT : T s'
    · have := hn s' (h.1 s' c1 e1).1 (by omega) hT
      omega
    · exact absurd hw' (h.2.2.1 s' hT).2.2.1
  · have := hn u (h.1 u c1 e1).1 (by omega) e0
    omega
theorem lD_z {d : Td} {w z : Nat} (hz : z < 2 ^ d 0) : lD d w z 0 (fun k => if k = z then 1 else 0) (fun _ => false) := by
  refine ⟨lReal_z hz, if_pos rfl, fun s h => (by cases h), fun s s' h => (by cases h), fun s => ?_, ?_⟩
  · show (if s = z then 1 else 0) ≤ _
    split <;> omega
  · have : ∀ n, cn (fun _ => false) n = 0 := by
      intro n
      induction n with
      | zero => rfl
      | succ n ih => simp [cn, ih]
    exact this _
/-- on the way through the MAKINGS that begin with what is settled now -/
def lE (d : Td) (z i s c m : Nat) (L0 L : Nat → Nat) (T : Nat → Bool) : Prop := lReal d z L ∧ (∀ k, T k = true → L k = L0 k) ∧ (∀ k, T k = false → L k ≠ 0 → c + 1 ≤ L k) ∧ (∀ k c2, L0 k = c2 + 1 → ∃ c3, L k = c3 + 1 ∧ c3 ≤ c2) ∧ (∀ m', m' < m → lCl d L s m') ∧ ∀ k, L k ≤ 24 * (i + 1) + 1
theorem lE_z {d : Td} {w z i s c : Nat} {L : Nat → Nat} {T : Nat → Bool} (h : lD d w z i L T) (hs : L s = c + 1) (hT : T s = false) (hn : ∀ s', s' < 2 ^ d 0 → L s' ≠ 0 → T s' = false → L s ≤ L s') : lE d z i s c 0 L L (fun k => if k = s then true else T k) := by
  refine ⟨h.1, fun k _ => rfl, fun k hk h0 => ?_, fun k c2 e => ⟨c2, e, Nat.le_refl _⟩, fun m' hm => by omega, fun k => ?_⟩
  · by_cases e : k = s
    · subst e
      omega
    · simp [e] at hk
      obtain ⟨c3, e3⟩ : ∃ c3, L k = c3 + 1 := ⟨L k - 1, by omega⟩
      have := hn k (h.1 k c3 e3).1 h0 hk
      omega
  · have := h.2.2.2.2.1 k
    omega
theorem lE_end {d : Td} {w z i s c : Nat} {L0 L : Nat → Nat} {T : Nat → Bool} (h : lD d w z i L0 T) (hs : L0 s = c + 1) (hT : T s = false) (hw : ¬ r_dif w s = 0) (hz : L z = 1) (hn : ∀ s', s' < 2 ^ d 0 → L0 s' ≠ 0 → T s' = false → L0 s ≤ L0 s') (hE : lE d z i s c (d 1) L0 L (fun k => if k = s then true else T k)) : lD d w z (i + 1) L (fun k => if k = s then true else T k) := by
  have hs2 := (h.1 s c hs).1
  obtain ⟨g1, g2, g3, g4, g5, g6⟩ := hE
  have max : ∀ k, (if k = s then true else T k) = true → L k ≤ c + 1 := by
    intro k hk
    rw [g2 k hk]
    by_cases e : k = s
    · subst e
      omega
    · simp [e] at hk
      have := h.2.2.2.1 k s hk hT (by omega)
      omega
  refine ⟨g1, hz, fun k hk => ?_, fun k k' hk hk' h0 => ?_, g6, ?_⟩
  · have e1 := g2 k hk
    by_cases e : k = s
    · subst e
      exact ⟨hs2, by omega, hw, g5⟩
    · simp [e] at hk
      obtain ⟨a1, a2, a3, a4⟩ := h.2.2.1 k hk
      refine ⟨a1, by omega, a3, fun m hm c1 hc1 hcan => ?_⟩
      obtain ⟨c2, e2, e3⟩ := a4 m hm c1 (by omega) hcan
      obtain ⟨c3, e4, e5⟩ := g4 _ c2 e2
      exact ⟨c3, e4, by omega⟩
  · have a := max k hk
    have b := g3 k' hk' h0
    omega
  · have h5 := h.2.2.2.2.2
    have one : ∀ n, cn (fun k => if k = s then true else T k) n = cn T n + if s < n then 1 else 0 := by
      intro n
      induction n with
      | zero => rfl
      | succ n ih =>
        rw [cn, cn, ih]
        by_cases e : n = s
        · subst e
          rw [hT]
          simp
        · simp [e]
          split <;> split <;> first | omega | (split <;> omega)
    rw [one, if_pos hs2]
    omega
theorem lE_mx {d : Td} {w z i s c : Nat} {L0 : Nat → Nat} {T : Nat → Bool} (h : lD d w z i L0 T) (hs : L0 s = c + 1) (hT : T s = false) : ∀ k, (if k = s then true else T k) = true → L0 k ≠ 0 ∧ L0 k ≤ c + 1 := by
  intro k hk
  by_cases e : k = s
  · subst e
    omega
  · simp [e] at hk
    have := h.2.2.2.1 k s hk hT (by omega)
    exact ⟨(h.2.2.1 k hk).2.1, by omega⟩
/-- one MAKING more -/
theorem lE_up {d : Td} (wf : Wf d) {z i s c m : Nat} {L0 L L' : Nat → Nat} {T : Nat → Bool} (hTs : T s = true) (hL0 : L0 s = c + 1) (hmx : ∀ k, T k = true → L0 k ≠ 0 ∧ L0 k ≤ c + 1) (hb : c ≤ 24 * i) (hm : m < d 1) (h : lE d z i s c m L0 L T) (hcan : lCan d m s = true) (e : ∀ k, L' k = if k = lMade d m s ∧ (L k = 0 ∨ c + d (41 + m) + 1 < L k) then c + d (41 + m) + 1 else L k) : lE d z i s c (m + 1) L0 L' T := by
  have hw := wf.2.2.2.2.1 m hm
  obtain ⟨g1, g2, g3, g4, g5, g6⟩ := h
  have es : L s = c + 1 := (g2 s hTs).trans hL0
  have tk : ∀ k, T k = true → L' k = L k := by
    intro k hk
    have a := g2 k hk
    have b := hmx k hk
    rw [e]
    split
    · rename_i q
      rcases q.2 with q2 | q2 <;> omega
    · rfl
  have mono : ∀ k c2, L k = c2 + 1 → ∃ c3, L' k = c3 + 1 ∧ c3 ≤ c2 := by
    intro k c2 hk
    rw [e]
    split
    · rename_i q
      rcases q.2 with q2 | q2
      · omega
      · exact ⟨c + d (41 + m), rfl, by omega⟩
    · exact ⟨c2, hk, Nat.le_refl _⟩
  refine ⟨lReal_up wf g1 es hm hcan (fun k => ?_), fun k hk => (tk k hk).trans (g2 k hk), fun k hk h0 => ?_, fun k c2 hk => ?_, fun m' hm' => ?_, fun k => ?_⟩
  · rw [e]
    split
    · rename_i q
      exact Or.inr ⟨q.1, rfl⟩
    · exact Or.inl rfl
  · rw [e] at h0 ⊢
    split
    · omega
    · rename_i q
      rw [if_neg q] at h0
      exact g3 k hk h0
  · obtain ⟨c3, a1, a2⟩ := g4 k c2 hk
    obtain ⟨c4, a3, a4⟩ := mono k c3 a1
    exact ⟨c4, a3, by omega⟩
  · intro c1 hc1 hcan1
    rw [tk s hTs] at hc1
    by_cases em : m' = m
    · subst em
      rw [e]
      split
      · exact ⟨c + d (41 + m'), rfl, by omega⟩
      · rename_i q
        have q1 : ¬ (L (lMade d m' s) = 0 ∨ c + d (41 + m') + 1 < L (lMade d m' s)) := fun z => q ⟨rfl, z⟩
        exact ⟨L (lMade d m' s) - 1, by omega, by omega⟩
    · obtain ⟨c2, a1, a2⟩ := g5 m' (by omega) c1 hc1 hcan1
      obtain ⟨c3, a3, a4⟩ := mono _ c2 a1
      exact ⟨c3, a3, by omega⟩
  · have := g6 k
    rw [e]
    split <;> omega
theorem lE_no {d : Td} {z i s c m : Nat} {L0 L : Nat → Nat} {T : Nat → Bool} (h : lE d z i s c m L0 L T) (hcan : ¬ lCan d m s = true) : lE d z i s c (m + 1) L0 L T := by
  obtain ⟨g1, g2, g3, g4, g5, g6⟩ := h
  refine ⟨g1, g2, g3, g4, fun m' hm' => ?_, g6⟩
  by_cases em : m' = m
  · subst em
    intro c1 _ q
    exact absurd q hcan
  · exact g5 m' (by omega)
/-- the soonest of those that are open, among the first p: 0 none, k + 1 number k -/
def lSo (L : Nat → Nat) (T : Nat → Bool) : Nat → Nat
  | 0 => 0
  | p + 1 => if L p ≠ 0 ∧ T p = false ∧ (lSo L T p = 0 ∨ L p < L (lSo L T p - 1)) then p + 1 else lSo L T p
theorem lSo_le {L : Nat → Nat} {T : Nat → Bool} : ∀ p, lSo L T p ≤ p
  | 0 => Nat.le_refl _
  | p + 1 => by
    have := lSo_le (L := L) (T := T) p
    rw [lSo]
    split <;> omega
theorem lSo_in {L : Nat → Nat} {T : Nat → Bool} : ∀ {p v : Nat}, lSo L T p = v + 1 → L v ≠ 0 ∧ T v = false
  | 0, v, h => by
    rw [lSo] at h
    omega
  | p + 1, v, h => by
    rw [lSo] at h
    split at h
    · rename_i q
      have : p = v := by omega
      subst this
      exact ⟨q.1, q.2.1⟩
    · exact lSo_in h
theorem lSo_none {L : Nat → Nat} {T : Nat → Bool} : ∀ {p : Nat}, lSo L T p = 0 → ∀ s, s < p → L s ≠ 0 → T s = true
  | 0, _, s, hs, _ => by omega
  | p + 1, h, s, hs, h0 => by
    rw [lSo] at h
    split at h
    · omega
    · rename_i q
      by_cases e : s = p
      · subst e
        cases hT : T s
        · exact absurd ⟨h0, hT, Or.inl h⟩ q
        · rfl
      · exact lSo_none h s (by omega) h0
theorem lSo_min {L : Nat → Nat} {T : Nat → Bool} : ∀ {p v : Nat}, lSo L T p = v + 1 → ∀ s, s < p → L s ≠ 0 → T s = false → L v ≤ L s
  | 0, v, h, s, hs, _, _ => by omega
  | p + 1, v, h, s, hs, h0, hT => by
    rw [lSo] at h
    split at h
    · rename_i q
      have ev : p = v := by omega
      subst ev
      by_cases e : s = p
      · subst e
        exact Nat.le_refl _
      · rcases q.2.2 with z | z
        · have := lSo_none z s (by omega) h0
          rw [hT] at this
          cases this
        · have := lSo_min (p := p) (v := lSo L T p - 1) (by
            by_cases z0 : lSo L T p = 0
            · have := lSo_none z0 s (by omega) h0
              rw [hT] at this
              cases this
            · omega) s (by omega) h0 hT
          omega
    · rename_i q
      by_cases e : s = p
      · subst e
        apply Nat.le_of_not_lt
        intro z
        refine q ⟨h0, hT, Or.inr ?_⟩
        rw [h, Nat.add_sub_cancel]
        exact z
      · exact lSo_min h s (by omega) h0 hT
noncomputable def g_labour (d : Td) (w s : Int32) : Int32 × Nat := if ¬ ((0 ≤ w.toInt ∧ w.toInt < ((2 ^ d 0 : Nat) : Int)) ∧ 0 ≤ s.toInt ∧ s.toInt < ((2 ^ d 0 : Nat) : Int)) then (-1, 2) else if lV d w.toInt.toNat s.toInt.toNat = 0 then (-1, 8) else (nM (lV d w.toInt.toNat s.toInt.toNat), 0)
