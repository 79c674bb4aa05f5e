-- READING: A PLAN THAT WAS TOLD IS WELL FORMED
def Pw (d : Td) (z : Pl9) : Prop := ∀ j, j < z.1 → z.2 (5 * j) ≤ 3 ∧ (z.2 (5 * j) = 0 → z.2 (5 * j + 1) ≤ 23 ∧ z.2 (5 * j + 2) < d 1 ∧ z.2 (5 * j + 3) < 2 ^ d 2) ∧ (z.2 (5 * j) ≠ 0 → z.2 (5 * j + 2) < d 0 ∧ z.2 (5 * j + 3) = 0)
theorem jb0_inv {T : Tx} {z : Pl9} {s : Ps} (h0 : s.2 = 0) (h : (jb0 T z s).2 = 0) : jb0 T z s = s ∧ ¬ kO (tK T s.1) = 4 ∧ ¬ z.1 = 24 := by
  unfold jb0 at h ⊢
  rw [if_neg (fun q => q h0)] at h ⊢
  by_cases h4 : kO (tK T s.1) = 4
  · rw [if_pos h4] at h
    exact absurd h (sWrong_n h0).1
  · rw [if_neg h4] at h ⊢
    by_cases h5 : ¬ kO (tK T s.1) = 0 ∧ pTold z (kO (tK T s.1)) z.1 = true
    · rw [if_pos h5] at h
      exact absurd h (sFail_n (by decide) h0)
    · rw [if_neg h5] at h ⊢
      by_cases h6 : z.1 = 24
      · rw [if_pos h6] at h
        exact absurd h (sFail_n (by decide) h0)
      · rw [if_neg h6]
        exact ⟨rfl, h4, h6⟩
theorem jbX_w {T : Tx} {x : St9} {z : Pl9} {s : Ps} (h0 : s.2 = 0) (h : (joS T x z s).2 = 0) (p : Pw x.1 z) : Pw x.1 (jbX T x z s) ∧ z.1 < 24 ∨ ¬ z.1 ≤ 24 := by
  have hb : (jb0 T z s).2 = 0 := Classical.byContradiction (fun y => by rw [jo_f0 y] at h; exact y h)
  have hi := jb0_inv h0 hb
  have e1 : sNext (jb0 T z s) = (s.1 + 1, 0) := by
    rw [hi.1]
    exact if_pos h0
  obtain ⟨c0, c1, c2, c3, c4, cs⟩ := jbX_c T x z s
  have hk := kO_le (tK T s.1)
  have hS : (jbS T x z s).2 = 0 := sMust_0 h
  by_cases hz : z.1 ≤ 24
  · refine Or.inl ⟨fun j hj => ?_, by omega⟩
    rw [c0] at hj
    by_cases ej : j = z.1
    · subst ej
      rw [c1, c2, c3, c4]
      refine ⟨by omega, fun k0 => ?_, fun k0 => ?_⟩
      · rw [if_pos k0, if_pos k0, ma4_n, e1]
        unfold jbS at hS
        rw [if_pos k0, ma4_n, e1] at hS
        have h3 : (nm3 T x (s.1 + 1, 0)).2 = 0 := Classical.byContradiction (fun y => by
          have e : nm4 T x (s.1 + 1, 0) = (0, nm3 T x (s.1 + 1, 0)) := if_neg y
          rw [e] at hS
          exact y hS)
        have o2 := sOld_ok (sNext_0 (show (nm2 T x (s.1 + 1, 0)).2 = 0 from sMust_0 h3))
        have o1 := sCount_ok o2.2.1
        have e2 : nm1 T (s.1 + 1, 0) = (s.1 + 2, 0) := o1.2.2.2
        have hf := fN_le x.2 (tL T (s.1 + 2)) 8 (x.1 1)
        have hn : ¬ fN x.2 (tL T (s.1 + 2)) 8 (x.1 1) = 0 := by
          have := o2.2.2.2
          rw [e2] at this
          exact this
        refine ⟨o1.2.2.1.2, by omega, ?_⟩
        have e4 : nm4 T x (s.1 + 1, 0) = sRw T x.2 20 (x.1 2) 0 0 (801 - (nm3 T x (s.1 + 1, 0)).1) 0 (nm3 T x (s.1 + 1, 0)) := if_pos h3
        rw [e4]
        exact sRw_lt _ _ _ (Nat.two_pow_pos _)
      · rw [if_neg k0, if_neg k0]
        unfold jbS at hS
        rw [if_neg k0] at hS
        unfold ke1 at hS
        rw [e1] at hS
        have o1 := sOld_ok (sNext_0 hS)
        have hf := fN_le x.2 (tL T (s.1 + 1)) 0 (x.1 0)
        have hn : ¬ fN x.2 (tL T (s.1 + 1)) 0 (x.1 0) = 0 := o1.2.2.2
        exact ⟨by omega, rfl⟩
    · rw [cs (5 * j) (by omega), cs (5 * j + 1) (by omega), cs (5 * j + 2) (by omega), cs (5 * j + 3) (by omega)]
      exact p j (by omega)
  · exact Or.inr hz
theorem plP_w {T : Tx} {x : St9} : ∀ (f : Nat) (z : Pl9) (s : Ps), s.2 = 0 → z.1 ≤ 24 → Pw x.1 z → Pw x.1 (plP T x f z s).1 ∧ (plP T x f z s).1.1 ≤ 24
  | 0, z, s, _, hz, p => ⟨p, hz⟩
  | f + 1, z, s, h0, hz, p => by
    rw [plP]
    split
    · exact ⟨p, hz⟩
    · split
      · exact ⟨p, hz⟩
      · rename_i h2
        have h3 : (joS T x z s).2 = 0 := Classical.byContradiction h2
        rcases jbX_w h0 h3 p with q | q
        · exact plP_w f _ _ h3 (by rw [(jbX_c T x z s).1]; omega) q.1
        · exact absurd hz q
theorem plR_w (T : Tx) (x : St9) : Pw x.1 (plR T x).1 ∧ (plR T x).1.1 ≤ 24 := plP_w 801 _ _ rfl (Nat.zero_le _) (fun j hj => absurd hj (Nat.not_lt_zero _))
/-- a town with a plan -/
def plD (d : Td) (z : Pl9) : Td := fun j => if j = 4 then z.1 else if j = 520 then 1 else if 521 ≤ j ∧ j < 521 + 5 * z.1 then z.2 (j - 521) else d j
theorem plD_lo {d : Td} {z : Pl9} {j : Nat} (h4 : ¬ j = 4) (h : j < 520) : plD d z j = d j := by
  unfold plD
  rw [if_neg h4, if_neg (by omega), if_neg (by omega)]
theorem plD_j {d : Td} {z : Pl9} {j i : Nat} (hj : j < z.1) (hi : i < 5) : plD d z (521 + i + 5 * j) = z.2 (5 * j + i) := by
  unfold plD
  rw [if_neg (by omega), if_neg (by omega), if_pos ⟨by omega, by omega⟩, show 521 + i + 5 * j - 521 = 5 * j + i by omega]
theorem plD_wj {d : Td} {z : Pl9} (p : Pw d z) : Wj (plD d z) := fun j hj => by
  have hj2 : j < z.1 := hj
  have q := p j hj2
  rw [show plD d z (521 + 5 * j) = z.2 (5 * j) from plD_j (i := 0) hj2 (by decide), show plD d z (522 + 5 * j) = z.2 (5 * j + 1) from plD_j (i := 1) hj2 (by decide), show plD d z (523 + 5 * j) = z.2 (5 * j + 2) from plD_j (i := 2) hj2 (by decide), show plD d z (524 + 5 * j) = z.2 (5 * j + 3) from plD_j (i := 3) hj2 (by decide), plD_lo (by decide) (by decide), plD_lo (by decide) (by decide), plD_lo (by decide) (by decide)]
  exact q
theorem plD_pj {pl : Nat} {d : Td} {z : Pl9} {M : Mem} (h : X_jb pl z M) : X_pj pl (plD d z) M := fun j hj => by
  have hj2 : j < z.1 := hj
  have q := h.2.2 j hj2
  rw [show plD d z (521 + 5 * j) = z.2 (5 * j) from plD_j (i := 0) hj2 (by decide), show plD d z (522 + 5 * j) = z.2 (5 * j + 1) from plD_j (i := 1) hj2 (by decide), show plD d z (523 + 5 * j) = z.2 (5 * j + 2) from plD_j (i := 2) hj2 (by decide), show plD d z (524 + 5 * j) = z.2 (5 * j + 3) from plD_j (i := 3) hj2 (by decide)]
  exact q
