-- THE FIRST OF THE BEST
def qF (g : Nat → Nat) : Nat → Nat
  | 0 => 0
  | n + 1 => if n = 0 then 0 else if g (qF g n) < g n then n else qF g n
theorem qF_sp (g : Nat → Nat) : ∀ n, 1 ≤ n → qF g n < n ∧ (∀ i, i < n → g i ≤ g (qF g n)) ∧ (∀ i, i < qF g n → g i < g (qF g n))
  | 0, h => by omega
  | n + 1, _ => by
    by_cases e : n = 0
    · subst e
      refine ⟨Nat.zero_lt_one, fun i hi => ?_, fun i hi => ?_⟩
      · have : i = 0 := by omega
        subst this
        exact Nat.le_refl _
      · have z0 : qF g (0 + 1) = 0 := rfl
        rw [z0] at hi
        omega
    · obtain ⟨a, b, c⟩ := qF_sp g n (by omega)
      by_cases q : g (qF g n) < g n
      · have e2 : qF g (n + 1) = n := by
          rw [qF, if_neg e, if_pos q]
        rw [e2]
        refine ⟨by omega, fun i hi => ?_, fun i hi => ?_⟩
        · by_cases z : i = n
          · subst z
            exact Nat.le_refl _
          · have := b i (by omega)
            omega
        · have := b i hi
          omega
      · have e2 : qF g (n + 1) = qF g n := by
          rw [qF, if_neg e, if_neg q]
        rw [e2]
        refine ⟨by omega, fun i hi => ?_, c⟩
        by_cases z : i = n
        · subst z
          omega
        · exact b i (by omega)
theorem f3_in {d : Td} {A : Nat} {f : Nat → Nat} {s r due w h : Nat} : ∀ n, f3 d A f s r due w h n ≠ 0 → ∃ v, v < n ∧ mS d s v = true ∧ f (stA d A s r w h v) = due
  | 0, q => absurd rfl q
  | n + 1, q => by
    rw [f3] at q
    split at q
    · rename_i z
      obtain ⟨v, a, b⟩ := f3_in n z
      exact ⟨v, by omega, b⟩
    · split at q
      · rename_i z
        exact ⟨n, by omega, z⟩
      · exact absurd rfl q
theorem f2_in {d : Td} {A : Nat} {f : Nat → Nat} {s r due w : Nat} : ∀ n, f2 d A f s r due w n ≠ 0 → ∃ h v, h < n ∧ v < d 0 + 1 ∧ mH d s h = true ∧ mS d s v = true ∧ f (stA d A s r w h v) = due
  | 0, q => absurd rfl q
  | n + 1, q => by
    rw [f2] at q
    split at q
    · rename_i z
      obtain ⟨h, v, a, b⟩ := f2_in n z
      exact ⟨h, v, by omega, b⟩
    · split at q
      · rename_i z
        obtain ⟨v, a, b⟩ := f3_in _ q
        exact ⟨n, v, by omega, a, z, b⟩
      · exact absurd rfl q
theorem f1_in {d : Td} {A : Nat} {f : Nat → Nat} {s r due : Nat} : ∀ n, f1 d A f s r due n ≠ 0 → ∃ w h v, w < n ∧ h < d 0 + 1 ∧ v < d 0 + 1 ∧ mW d s w = true ∧ mH d s h = true ∧ mS d s v = true ∧ f (stA d A s r w h v) = due
  | 0, q => absurd rfl q
  | n + 1, q => by
    rw [f1] at q
    split at q
    · rename_i z
      obtain ⟨w, h, v, a, b⟩ := f1_in n z
      exact ⟨w, h, v, by omega, b⟩
    · split at q
      · rename_i z
        obtain ⟨h, v, a, b, c⟩ := f2_in _ q
        exact ⟨n, h, v, by omega, a, b, z, c⟩
      · exact absurd rfl q
theorem qL_pos (d : Td) (wf : Wf d) {s : Nat} (r : Nat) (hs : s < 2 ^ d 0) : 1 ≤ (qL d s r).length := by
  obtain ⟨x, hx, _⟩ := qL_norm wf (A := 0) (r := r) hs (w := 0) (h := 0) (v := 0) ⟨⟨Nat.zero_le _, Nat.zero_le _, Nat.zero_le _⟩, rfl, rfl, rfl⟩
  exact List.length_pos_of_mem hx
theorem qL_key {d : Td} (wf : Wf d) {s r i j : Nat} (hi : i < (qL d s r).length) (hij : i ≤ j) (hj : j < (qL d s r).length) : qKey ((qL d s r).getD i (0, 0, 0)) ≤ qKey ((qL d s r).getD j (0, 0, 0)) := by
  by_cases e : i = j
  · subst e
    exact Nat.le_refl _
  · have h9 := List.pairwise_iff_getElem.mp (q1_srt (s := s) (r := r) wf.1.1 (d 0 + 1) (by have := wf.1.1; omega)).1 i j hi hj (by omega)
    have e1 : (qL d s r).getD i (0, 0, 0) = (qL d s r)[i] := by
      rw [List.getD_eq_getElem?_getD, List.getElem?_eq_getElem hi]
      rfl
    have e2 : (qL d s r).getD j (0, 0, 0) = (qL d s r)[j] := by
      rw [List.getD_eq_getElem?_getD, List.getElem?_eq_getElem hj]
      rfl
    rw [e1, e2]
    exact Nat.le_of_lt h9
def qG (d : Td) (f : Nat → Nat) (s r : Nat) (i : Nat) : Nat := f (qSt d 0 s r (qL d s r) i)
def qX (d : Td) (f : Nat → Nat) (s r : Nat) : Tp := (qL d s r).getD (qF (qG d f s r) (qL d s r).length) (0, 0, 0)
theorem qX_sp {d : Td} (wf : Wf d) {f : Nat → Nat} {s r : Nat} (hs : s < 2 ^ d 0) : nAl d s (qX d f s r).1 (qX d f s r).2.1 (qX d f s r).2.2 ∧ f (stA d 0 s r (qX d f s r).1 (qX d f s r).2.1 (qX d f s r).2.2) = nBest d 0 f s r ∧ ∀ w h v, nAl d s w h v → f (stA d 0 s r w h v) = nBest d 0 f s r → qKey (qX d f s r) ≤ w * 81 + h * 9 + v := by
  obtain ⟨a, b, c⟩ := qF_sp (qG d f s r) (qL d s r).length (qL_pos d wf r hs)
  have hal : nAl d s (qX d f s r).1 (qX d f s r).2.1 (qX d f s r).2.2 := qL_al wf (qL_in a)
  have hval : qG d f s r (qF (qG d f s r) (qL d s r).length) = f (stA d 0 s r (qX d f s r).1 (qX d f s r).2.1 (qX d f s r).2.2) := rfl
  have hnb : nBest d 0 f s r = f (stA d 0 s r (qX d f s r).1 (qX d f s r).2.1 (qX d f s r).2.2) := by
    refine nB_u (fun w h v q => ?_) ⟨_, _, _, hal, rfl⟩
    obtain ⟨x, hx, e2, _⟩ := qL_norm wf (A := 0) (r := r) hs q
    obtain ⟨i, hi, e3⟩ := qL_get hx
    have h9 := b i hi
    rw [hval] at h9
    have e4 : qG d f s r i = f (stA d 0 s r w h v) := by
      unfold qG qSt
      rw [e3, e2]
    rw [← e4]
    exact h9
  refine ⟨hal, hnb.symm, fun w h v q q2 => ?_⟩
  obtain ⟨x, hx, e2, e5, _⟩ := qL_norm wf (A := 0) (r := r) hs q
  obtain ⟨j, hj, e3⟩ := qL_get hx
  have e4 : qG d f s r j = f (stA d 0 s r w h v) := by
    unfold qG qSt
    rw [e3, e2]
  have h8 : ¬ j < qF (qG d f s r) (qL d s r).length := fun z => by
    have h9 := c j z
    rw [hval, e4, q2, hnb] at h9
    omega
  have h7 := qL_key wf a (show qF (qG d f s r) (qL d s r).length ≤ j by omega) hj
  rw [e3] at h7
  have h6 : qKey (w, h, v) = w * 81 + h * 9 + v := rfl
  have h5 : qKey (qX d f s r) ≤ qKey x := h7
  omega
theorem qX_code {d : Td} (wf : Wf d) {f : Nat → Nat} {s r : Nat} (hs : s < 2 ^ d 0) : f1 d 0 f s r (nBest d 0 f s r) (d 0 + 1) = (qX d f s r).1 * 81 + (qX d f s r).2.1 * 9 + (qX d f s r).2.2 + 1 := by
  obtain ⟨a, b, c⟩ := qX_sp wf (f := f) (r := r) hs
  have hk : qKey (qX d f s r) = (qX d f s r).1 * 81 + (qX d f s r).2.1 * 9 + (qX d f s r).2.2 := rfl
  have hd := wf.1.1
  obtain ⟨⟨a1, a2, a3⟩, a4, a5, a6⟩ := a
  refine f1_hit ⟨⟨a1, a2, a3⟩, a4, a5, a6⟩ (Classical.byContradiction fun z => ?_) (Classical.byContradiction fun z => ?_) (Classical.byContradiction fun z => ?_) b
  · obtain ⟨w, h, v, q1, q2, q3, q4, q5, q6, q7⟩ := f1_in _ z
    have := c w h v ⟨⟨by omega, by omega, by omega⟩, q4, q5, q6⟩ q7
    omega
  · obtain ⟨h, v, q1, q2, q5, q6, q7⟩ := f2_in _ z
    have := c _ h v ⟨⟨by omega, by omega, by omega⟩, a4, q5, q6⟩ q7
    omega
  · obtain ⟨v, q1, q6, q7⟩ := f3_in _ z
    have := c _ _ v ⟨⟨by omega, by omega, by omega⟩, a4, a5, q6⟩ q7
    omega
theorem qX_cho {d : Td} (wf : Wf d) {f : Nat → Nat} {s r : Nat} (hs : s < 2 ^ d 0) : nCho d 0 s r (f1 d 0 f s r (nBest d 0 f s r) (d 0 + 1)) = fun k => if k = 0 then nM (qX d f s r).1 else if k = 1 then nM (qX d f s r).2.1 else if k = 2 then nM (qX d f s r).2.2 else nI (stA d 0 s r (qX d f s r).1 (qX d f s r).2.1 (qX d f s r).2.2) := by
  obtain ⟨⟨⟨a1, a2, a3⟩, _⟩, _⟩ := qX_sp wf (f := f) (r := r) hs
  have hd := wf.1.1
  rw [qX_code wf hs, nCho_at ⟨by omega, by omega⟩]
