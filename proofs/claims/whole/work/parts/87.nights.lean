-- THE BEST NIGHT
def mW (d : Td) (s w : Nat) : Bool := mayB s (fun t => decide (d (5 + t) = 1)) w
def mH (d : Td) (s h : Nat) : Bool := mayB s (fun _ => twAw d) h
def mS (d : Td) (s v : Nat) : Bool := mayB s (fun t => decide (d (13 + t) = 1)) v
def n3 (d : Td) (A : Nat) (f : Nat → Nat) (s r w h c : Nat) : Nat → Nat
  | 0 => c
  | n + 1 => if mS d s n = true then max (n3 d A f s r w h c n) (f (stA d A s r w h n) + 1) else n3 d A f s r w h c n
def n2 (d : Td) (A : Nat) (f : Nat → Nat) (s r w c : Nat) : Nat → Nat
  | 0 => c
  | n + 1 => if mH d s n = true then n3 d A f s r w n (n2 d A f s r w c n) (d 0 + 1) else n2 d A f s r w c n
def n1 (d : Td) (A : Nat) (f : Nat → Nat) (s r : Nat) : Nat → Nat
  | 0 => 0
  | n + 1 => if mW d s n = true then n2 d A f s r n (n1 d A f s r n) (d 0 + 1) else n1 d A f s r n
def nBest (d : Td) (A : Nat) (f : Nat → Nat) (s r : Nat) : Nat := n1 d A f s r (d 0 + 1) - 1
theorem n3_sp (d : Td) (A : Nat) (f : Nat → Nat) (s r w h c : Nat) : ∀ n, c ≤ n3 d A f s r w h c n ∧ (∀ v, v < n → mS d s v = true → f (stA d A s r w h v) + 1 ≤ n3 d A f s r w h c n) ∧ (n3 d A f s r w h c n = c ∨ ∃ v, v < n ∧ mS d s v = true ∧ n3 d A f s r w h c n = f (stA d A s r w h v) + 1)
  | 0 => ⟨Nat.le_refl _, fun v hv => by omega, Or.inl rfl⟩
  | n + 1 => by
    obtain ⟨i1, i2, i3⟩ := n3_sp d A f s r w h c n
    rw [n3]
    split
    · rename_i hm
      refine ⟨by omega, fun v hv hv2 => ?_, ?_⟩
      · by_cases e : v = n
        · subst e
          omega
        · have := i2 v (by omega) hv2
          omega
      · by_cases e : f (stA d A s r w h n) + 1 ≤ n3 d A f s r w h c n
        · rw [Nat.max_eq_left e]
          rcases i3 with i3 | ⟨v, a, b, c1⟩
          · exact Or.inl i3
          · exact Or.inr ⟨v, by omega, b, c1⟩
        · rw [Nat.max_eq_right (by omega)]
          exact Or.inr ⟨n, by omega, hm, rfl⟩
    · rename_i hm
      refine ⟨i1, fun v hv hv2 => ?_, ?_⟩
      · by_cases e : v = n
        · subst e
          exact absurd hv2 hm
        · exact i2 v (by omega) hv2
      · rcases i3 with i3 | ⟨v, a, b, c1⟩
        · exact Or.inl i3
        · exact Or.inr ⟨v, by omega, b, c1⟩
theorem n2_sp (d : Td) (A : Nat) (f : Nat → Nat) (s r w c : Nat) : ∀ n, c ≤ n2 d A f s r w c n ∧ (∀ h v, h < n → v < d 0 + 1 → mH d s h = true → mS d s v = true → f (stA d A s r w h v) + 1 ≤ n2 d A f s r w c n) ∧ (n2 d A f s r w c n = c ∨ ∃ h v, h < n ∧ v < d 0 + 1 ∧ mH d s h = true ∧ mS d s v = true ∧ n2 d A f s r w c n = f (stA d A s r w h v) + 1)
  | 0 => ⟨Nat.le_refl _, fun h v hv => by omega, Or.inl rfl⟩
  | n + 1 => by
    obtain ⟨i1, i2, i3⟩ := n2_sp d A f s r w c n
    rw [n2]
    split
    · rename_i hm
      obtain ⟨j1, j2, j3⟩ := n3_sp d A f s r w n (n2 d A f s r w c n) (d 0 + 1)
      refine ⟨by omega, fun h v hh hv h1 h2 => ?_, ?_⟩
      · by_cases e : h = n
        · subst e
          exact j2 v hv h2
        · have := i2 h v (by omega) hv h1 h2
          omega
      · rcases j3 with j3 | ⟨v, a, b, c1⟩
        · rw [j3]
          rcases i3 with i3 | ⟨h, v, a, b, c1, c2, c3⟩
          · exact Or.inl i3
          · exact Or.inr ⟨h, v, by omega, b, c1, c2, c3⟩
        · exact Or.inr ⟨n, v, by omega, a, hm, b, c1⟩
    · rename_i hm
      refine ⟨i1, fun h v hh hv h1 h2 => ?_, ?_⟩
      · by_cases e : h = n
        · subst e
          exact absurd h1 hm
        · exact i2 h v (by omega) hv h1 h2
      · rcases i3 with i3 | ⟨h, v, a, b, c1, c2, c3⟩
        · exact Or.inl i3
        · exact Or.inr ⟨h, v, by omega, b, c1, c2, c3⟩
def nAl (d : Td) (s w h v : Nat) : Prop := (w ≤ d 0 ∧ h ≤ d 0 ∧ v ≤ d 0) ∧ mW d s w = true ∧ mH d s h = true ∧ mS d s v = true
theorem n1_sp (d : Td) (A : Nat) (f : Nat → Nat) (s r : Nat) : ∀ n, (∀ w h v, w < n → h < d 0 + 1 → v < d 0 + 1 → mW d s w = true → mH d s h = true → mS d s v = true → f (stA d A s r w h v) + 1 ≤ n1 d A f s r n) ∧ (n1 d A f s r n = 0 ∨ ∃ w h v, (w < n ∧ h < d 0 + 1 ∧ v < d 0 + 1) ∧ mW d s w = true ∧ mH d s h = true ∧ mS d s v = true ∧ n1 d A f s r n = f (stA d A s r w h v) + 1)
  | 0 => ⟨fun w h v hv => by omega, Or.inl rfl⟩
  | n + 1 => by
    obtain ⟨i2, i3⟩ := n1_sp d A f s r n
    rw [n1]
    split
    · rename_i hm
      obtain ⟨j1, j2, j3⟩ := n2_sp d A f s r n (n1 d A f s r n) (d 0 + 1)
      refine ⟨fun w h v hw hh hv h0 h1 h2 => ?_, ?_⟩
      · by_cases e : w = n
        · subst e
          exact j2 h v hh hv h1 h2
        · have := i2 w h v (by omega) hh hv h0 h1 h2
          omega
      · rcases j3 with j3 | ⟨h, v, a, b, c1, c2, c3⟩
        · rw [j3]
          rcases i3 with i3 | ⟨w, h, v, a, b, c1, c2, c3⟩
          · exact Or.inl i3
          · exact Or.inr ⟨w, h, v, by omega, b, c1, c2, c3⟩
        · exact Or.inr ⟨n, h, v, by omega, hm, c1, c2, c3⟩
    · rename_i hm
      refine ⟨fun w h v hw hh hv h0 h1 h2 => ?_, ?_⟩
      · by_cases e : w = n
        · subst e
          exact absurd h0 hm
        · exact i2 w h v (by omega) hh hv h0 h1 h2
      · rcases i3 with i3 | ⟨w, h, v, a, b, c1, c2, c3⟩
        · exact Or.inl i3
        · exact Or.inr ⟨w, h, v, by omega, b, c1, c2, c3⟩
theorem n1_pos (d : Td) (A : Nat) (f : Nat → Nat) (s r : Nat) : n1 d A f s r (d 0 + 1) = nBest d A f s r + 1 := by
  have := (n1_sp d A f s r (d 0 + 1)).1 0 0 0 (by omega) (by omega) (by omega) rfl rfl rfl
  unfold nBest
  omega
theorem nB_le {d : Td} {A : Nat} {f : Nat → Nat} {s r w h v : Nat} (ha : nAl d s w h v) : f (stA d A s r w h v) ≤ nBest d A f s r := by
  have h1 := (n1_sp d A f s r (d 0 + 1)).1 w h v (by have := ha.1; omega) (by have := ha.1; omega) (by have := ha.1; omega) ha.2.1 ha.2.2.1 ha.2.2.2
  have h2 := n1_pos d A f s r
  omega
theorem nB_ex (d : Td) (A : Nat) (f : Nat → Nat) (s r : Nat) : ∃ w h v, nAl d s w h v ∧ f (stA d A s r w h v) = nBest d A f s r := by
  have h2 := n1_pos d A f s r
  rcases (n1_sp d A f s r (d 0 + 1)).2 with h | ⟨w, h, v, a, b, c1, c2, c3⟩
  · omega
  · exact ⟨w, h, v, ⟨by omega, b, c1, c2⟩, by omega⟩
theorem nB_u {d : Td} {A : Nat} {f : Nat → Nat} {s r x : Nat} (h1 : ∀ w h v, nAl d s w h v → f (stA d A s r w h v) ≤ x) (h2 : ∃ w h v, nAl d s w h v ∧ f (stA d A s r w h v) = x) : nBest d A f s r = x := by
  obtain ⟨w, h, v, a, b⟩ := nB_ex d A f s r
  obtain ⟨w', h', v', a', b'⟩ := h2
  have c1 := h1 w h v a
  have c2 := nB_le (A := A) (f := f) (r := r) a'
  omega
theorem nB_b {d : Td} {A : Nat} {f : Nat → Nat} {s r C : Nat} (h : ∀ x, f x ≤ C) : nBest d A f s r ≤ C := by
  obtain ⟨w, hh, v, a, b⟩ := nB_ex d A f s r
  rw [← b]
  exact h _
theorem n3_c {d : Td} {A : Nat} {f : Nat → Nat} {s r w h c C : Nat} (hf : ∀ x, f x ≤ C) (hc : c ≤ C + 1) : ∀ n, n3 d A f s r w h c n ≤ C + 1
  | 0 => hc
  | n + 1 => by
    have := n3_c (d := d) (A := A) (s := s) (r := r) (w := w) (h := h) hf hc n
    have := hf (stA d A s r w h n)
    rw [n3]
    split <;> omega
theorem n2_c {d : Td} {A : Nat} {f : Nat → Nat} {s r w c C : Nat} (hf : ∀ x, f x ≤ C) (hc : c ≤ C + 1) : ∀ n, n2 d A f s r w c n ≤ C + 1
  | 0 => hc
  | n + 1 => by
    have := n2_c (d := d) (A := A) (s := s) (r := r) (w := w) hf hc n
    rw [n2]
    split
    · exact n3_c hf this _
    · exact this
theorem n1_c {d : Td} {A : Nat} {f : Nat → Nat} {s r C : Nat} (hf : ∀ x, f x ≤ C) : ∀ n, n1 d A f s r n ≤ C + 1
  | 0 => Nat.zero_le _
  | n + 1 => by
    have := n1_c (d := d) (A := A) (s := s) (r := r) hf n
    rw [n1]
    split
    · exact n2_c hf this _
    · exact this
-- DAYS BEHIND
def BD (d : Td) (A z : Nat) : Nat → Nat → Nat
  | 0 => fun _ => 0
  | i + 1 => fun s => nBest d A (fun x => dA d (BD d A z i) 0 x) s ((z - i) % 7)
theorem BD_b {d : Td} (wf : Wf d) (A z : Nat) : ∀ i s, BD d A z i s ≤ 199800 * i
  | 0, _ => Nat.le_refl _
  | i + 1, s => by
    have := nB_b (d := d) (A := A) (f := fun x => dA d (BD d A z i) 0 x) (s := s) (r := (z - i) % 7) (C := 199800 * i + 199800) (fun x => dA_b wf (BD_b wf A z i) 0 x (by omega))
    show nBest _ _ _ _ _ ≤ _
    omega
/-- what comes first among those that come to as much: 0 none, else its place + 1 -/
def f3 (d : Td) (A : Nat) (f : Nat → Nat) (s r due w h : Nat) : Nat → Nat
  | 0 => 0
  | n + 1 => if f3 d A f s r due w h n ≠ 0 then f3 d A f s r due w h n else if mS d s n = true ∧ f (stA d A s r w h n) = due then w * 81 + h * 9 + n + 1 else 0
def f2 (d : Td) (A : Nat) (f : Nat → Nat) (s r due w : Nat) : Nat → Nat
  | 0 => 0
  | n + 1 => if f2 d A f s r due w n ≠ 0 then f2 d A f s r due w n else if mH d s n = true then f3 d A f s r due w n (d 0 + 1) else 0
def f1 (d : Td) (A : Nat) (f : Nat → Nat) (s r due : Nat) : Nat → Nat
  | 0 => 0
  | n + 1 => if f1 d A f s r due n ≠ 0 then f1 d A f s r due n else if mW d s n = true then f2 d A f s r due n (d 0 + 1) else 0
theorem f3_keep {d : Td} {A : Nat} {f : Nat → Nat} {s r due w h n : Nat} (q : f3 d A f s r due w h n ≠ 0) : ∀ m, n ≤ m → f3 d A f s r due w h m = f3 d A f s r due w h n
  | 0, hm => by
    have : n = 0 := by omega
    subst this
    rfl
  | m + 1, hm => by
    by_cases e : n = m + 1
    · subst e
      rfl
    · have ih := f3_keep q m (by omega)
      rw [f3, ih, if_pos q]
theorem f2_keep {d : Td} {A : Nat} {f : Nat → Nat} {s r due w n : Nat} (q : f2 d A f s r due w n ≠ 0) : ∀ m, n ≤ m → f2 d A f s r due w m = f2 d A f s r due w n
  | 0, hm => by
    have : n = 0 := by omega
    subst this
    rfl
  | m + 1, hm => by
    by_cases e : n = m + 1
    · subst e
      rfl
    · have ih := f2_keep q m (by omega)
      rw [f2, ih, if_pos q]
theorem f1_keep {d : Td} {A : Nat} {f : Nat → Nat} {s r due n : Nat} (q : f1 d A f s r due n ≠ 0) : ∀ m, n ≤ m → f1 d A f s r due m = f1 d A f s r due n
  | 0, hm => by
    have : n = 0 := by omega
    subst this
    rfl
  | m + 1, hm => by
    by_cases e : n = m + 1
    · subst e
      rfl
    · have ih := f1_keep q m (by omega)
      rw [f1, ih, if_pos q]
theorem f3_no {d : Td} {A : Nat} {f : Nat → Nat} {s r due w h : Nat} : ∀ n, f3 d A f s r due w h n = 0 → ∀ v, v < n → ¬ (mS d s v = true ∧ f (stA d A s r w h v) = due)
  | 0, _, v, hv => by omega
  | n + 1, q, v, hv => by
    rw [f3] at q
    split at q
    · omega
    · rename_i z
      split at q
      · omega
      · rename_i y
        by_cases e : v = n
        · subst e
          exact y
        · exact f3_no n (by omega) v (by omega)
theorem f2_no {d : Td} {A : Nat} {f : Nat → Nat} {s r due w : Nat} : ∀ n, f2 d A f s r due w n = 0 → ∀ h v, h < n → v < d 0 + 1 → mH d s h = true → ¬ (mS d s v = true ∧ f (stA d A s r w h v) = due)
  | 0, _, h, v, hh, _, _ => by omega
  | n + 1, q, h, v, hh, hv, hm => by
    rw [f2] at q
    split at q
    · omega
    · rename_i z
      by_cases e : h = n
      · subst e
        rw [if_pos hm] at q
        exact f3_no _ q v hv
      · exact f2_no n (by omega) h v (by omega) hv hm
theorem f1_no {d : Td} {A : Nat} {f : Nat → Nat} {s r due : Nat} : ∀ n, f1 d A f s r due n = 0 → ∀ w h v, w < n → h < d 0 + 1 → v < d 0 + 1 → mW d s w = true → mH d s h = true → ¬ (mS d s v = true ∧ f (stA d A s r w h v) = due)
  | 0, _, w, h, v, hh, _, _, _, _ => by omega
  | n + 1, q, w, h, v, hw, hh, hv, hm, hm2 => by
    rw [f1] at q
    split at q
    · omega
    · rename_i z
      by_cases e : w = n
      · subst e
        rw [if_pos hm] at q
        exact f2_no _ q h v hh hv hm2
      · exact f1_no n (by omega) w h v (by omega) hh hv hm hm2
def bV (d : Td) (A n z x : Nat) : Nat := dA d (BD d A z (n - 1)) 0 x
theorem bV_b {d : Td} (wf : Wf d) {A n z : Nat} (hn : n ≤ 9) (x : Nat) : bV d A n z x ≤ 2000000 := by
  have := dA_b wf (BD_b wf A z (n - 1)) 0 x (by omega)
  unfold bV
  omega
/-- the first of the greatest, 0 to n -/
def bk (g : Nat → Nat) : Nat → Nat
  | 0 => 0
  | t + 1 => if g (bk g t) < g (t + 1) then t + 1 else bk g t
theorem bk_le (g : Nat → Nat) : ∀ n, bk g n ≤ n
  | 0 => Nat.le_refl _
  | n + 1 => by
    have := bk_le g n
    rw [bk]
    split <;> omega
def g_kept (d : Td) (t n : Int32) : Int32 × Nat := if ¬ (0 ≤ t.toInt ∧ t.toInt < d 0) then (-1, 2) else if ¬ (1 ≤ n.toInt ∧ n.toInt ≤ 9) then (-1, 5) else (nI (bV d 0 n.toInt.toNat (n.toInt.toNat - 2) (2 ^ t.toInt.toNat)) - nI (bV d 0 n.toInt.toNat (n.toInt.toNat - 2) 0), 0)
def g_bestKept (d : Td) (n : Int32) : Int32 × Nat := if ¬ (1 ≤ n.toInt ∧ n.toInt ≤ 9) then (-1, 5) else if d 0 = 0 then (-1, 8) else (nI (bk (fun t => bV d 0 n.toInt.toNat (n.toInt.toNat - 2) (2 ^ t)) (d 0 - 1)), 0)
def g_more (d : Td) (t n : Int32) : Int32 × Nat := if ¬ (0 ≤ t.toInt ∧ t.toInt < d 0) then (-1, 2) else if ¬ (1 ≤ n.toInt ∧ n.toInt ≤ 9) then (-1, 5) else (nI (bV d (2 ^ t.toInt.toNat) n.toInt.toNat (n.toInt.toNat - 2) 0) - nI (bV d 0 n.toInt.toNat (n.toInt.toNat - 2) 0), 0)
def g_bestMore (d : Td) (n : Int32) : Int32 × Nat := if ¬ (1 ≤ n.toInt ∧ n.toInt ≤ 9) then (-1, 5) else if d 0 = 0 then (-1, 8) else (nI (bk (fun t => bV d (2 ^ t) n.toInt.toNat (n.toInt.toNat - 2) 0) (d 0 - 1)), 0)
