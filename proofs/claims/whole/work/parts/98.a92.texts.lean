-- THE WHOLE: town, law, plan, marks

noncomputable def G9_town (a : Nat → Int32) (σ : Sg9) : Value × Sg9 := if ¬ (0 ≤ (a 1).toInt ∧ (a 1).toInt ≤ (σ.2.2.1.1 : Int) ∧ (a 1).toInt ≤ ((800 : Nat) : Int)) then (.int (-1), (nI 5, σ.2.1, σ.2.2.1, σ.2.2.2.1, σ.2.2.2.2.1, σ.2.2.2.2.2.1, σ.2.2.2.2.2.2.1, σ.2.2.2.2.2.2.2.1, σ.2.2.2.2.2.2.2.2.1, σ.2.2.2.2.2.2.2.2.2)) else if (twR (txT σ.2.2.1 (a 1).toInt.toNat)).2.2 = 0 then (.int (nI ((twR (txT σ.2.2.1 (a 1).toInt.toNat)).1.1 0)), (nI 0, σ.2.1, ((0, σ.2.2.1.2) : Nat × (Nat → Int32)), (nI 0, -1), σ.2.2.2.2.1, σ.2.2.2.2.2.1, σ.2.2.2.2.2.2.1, σ.2.2.2.2.2.2.2.1, σ.2.2.2.2.2.2.2.2.1, (σ.2.2.2.2.2.2.2.2.2.1, up9 σ.2.2.2.2.2.2.2.2.2.1 σ.2.2.2.2.2.2.2.2.2.2.1 (twR (txT σ.2.2.1 (a 1).toInt.toNat)).1.1, up9 σ.2.2.2.2.2.2.2.2.2.1 σ.2.2.2.2.2.2.2.2.2.2.2.1 (twR (txT σ.2.2.1 (a 1).toInt.toNat)).1.2, fun _ => 0))) else (.int (-1), (nI 10, σ.2.1, ((0, σ.2.2.1.2) : Nat × (Nat → Int32)), (nI (twR (txT σ.2.2.1 (a 1).toInt.toNat)).2.2, nI (tA (txT σ.2.2.1 (a 1).toInt.toNat) (twR (txT σ.2.2.1 (a 1).toInt.toNat)).2.1)), σ.2.2.2.2.1, σ.2.2.2.2.2.1, σ.2.2.2.2.2.2.1, σ.2.2.2.2.2.2.2.1, σ.2.2.2.2.2.2.2.2.1, (σ.2.2.2.2.2.2.2.2.2.1, σ.2.2.2.2.2.2.2.2.2.2.1, σ.2.2.2.2.2.2.2.2.2.2.2.1, fun _ => 0)))

noncomputable def G9_law (a : Nat → Int32) (σ : Sg9) : Value × Sg9 := if ¬ (0 ≤ (a 1).toInt ∧ (a 1).toInt ≤ (σ.2.2.1.1 : Int) ∧ (a 1).toInt ≤ ((300 : Nat) : Int)) then (.int (-1), (nI 5, σ.2.1, σ.2.2.1, σ.2.2.2.1, σ.2.2.2.2.1, σ.2.2.2.2.2.1, σ.2.2.2.2.2.2.1, σ.2.2.2.2.2.2.2.1, σ.2.2.2.2.2.2.2.2.1, σ.2.2.2.2.2.2.2.2.2)) else if (laR (txT σ.2.2.1 (a 1).toInt.toNat) (σ.2.2.2.2.2.2.2.2.2.2.1 σ.2.2.2.2.2.2.2.2.2.1, σ.2.2.2.2.2.2.2.2.2.2.2.1 σ.2.2.2.2.2.2.2.2.2.1) σ.2.2.2.2.2.2.2.2.2.2.2.2).2.2.2 = 0 then (.int (nI (laR (txT σ.2.2.1 (a 1).toInt.toNat) (σ.2.2.2.2.2.2.2.2.2.2.1 σ.2.2.2.2.2.2.2.2.2.1, σ.2.2.2.2.2.2.2.2.2.2.2.1 σ.2.2.2.2.2.2.2.2.2.1) σ.2.2.2.2.2.2.2.2.2.2.2.2).1), (nI 0, σ.2.1, ((0, σ.2.2.1.2) : Nat × (Nat → Int32)), (nI 0, -1), σ.2.2.2.2.1, σ.2.2.2.2.2.1, σ.2.2.2.2.2.2.1, σ.2.2.2.2.2.2.2.1, σ.2.2.2.2.2.2.2.2.1, (σ.2.2.2.2.2.2.2.2.2.1, up9 σ.2.2.2.2.2.2.2.2.2.1 σ.2.2.2.2.2.2.2.2.2.2.1 (lwD (σ.2.2.2.2.2.2.2.2.2.2.1 σ.2.2.2.2.2.2.2.2.2.1) (laR (txT σ.2.2.1 (a 1).toInt.toNat) (σ.2.2.2.2.2.2.2.2.2.2.1 σ.2.2.2.2.2.2.2.2.2.1, σ.2.2.2.2.2.2.2.2.2.2.2.1 σ.2.2.2.2.2.2.2.2.2.1) σ.2.2.2.2.2.2.2.2.2.2.2.2).2.1), σ.2.2.2.2.2.2.2.2.2.2.2.1, (laR (txT σ.2.2.1 (a 1).toInt.toNat) (σ.2.2.2.2.2.2.2.2.2.2.1 σ.2.2.2.2.2.2.2.2.2.1, σ.2.2.2.2.2.2.2.2.2.2.2.1 σ.2.2.2.2.2.2.2.2.2.1) σ.2.2.2.2.2.2.2.2.2.2.2.2).2.1.2.2))) else (.int (-1), (nI 10, σ.2.1, ((0, σ.2.2.1.2) : Nat × (Nat → Int32)), (nI (laR (txT σ.2.2.1 (a 1).toInt.toNat) (σ.2.2.2.2.2.2.2.2.2.2.1 σ.2.2.2.2.2.2.2.2.2.1, σ.2.2.2.2.2.2.2.2.2.2.2.1 σ.2.2.2.2.2.2.2.2.2.1) σ.2.2.2.2.2.2.2.2.2.2.2.2).2.2.2, nI (tA (txT σ.2.2.1 (a 1).toInt.toNat) (laR (txT σ.2.2.1 (a 1).toInt.toNat) (σ.2.2.2.2.2.2.2.2.2.2.1 σ.2.2.2.2.2.2.2.2.2.1, σ.2.2.2.2.2.2.2.2.2.2.2.1 σ.2.2.2.2.2.2.2.2.2.1) σ.2.2.2.2.2.2.2.2.2.2.2.2).2.2.1)), σ.2.2.2.2.1, σ.2.2.2.2.2.1, σ.2.2.2.2.2.2.1, σ.2.2.2.2.2.2.2.1, σ.2.2.2.2.2.2.2.2.1, (σ.2.2.2.2.2.2.2.2.2.1, σ.2.2.2.2.2.2.2.2.2.2.1, σ.2.2.2.2.2.2.2.2.2.2.2.1, (laR (txT σ.2.2.1 (a 1).toInt.toNat) (σ.2.2.2.2.2.2.2.2.2.2.1 σ.2.2.2.2.2.2.2.2.2.1, σ.2.2.2.2.2.2.2.2.2.2.2.1 σ.2.2.2.2.2.2.2.2.2.1) σ.2.2.2.2.2.2.2.2.2.2.2.2).2.1.2.2)))

noncomputable def G9_plan (a : Nat → Int32) (σ : Sg9) : Value × Sg9 := if ¬ (0 ≤ (a 1).toInt ∧ (a 1).toInt ≤ (σ.2.2.1.1 : Int) ∧ (a 1).toInt ≤ ((300 : Nat) : Int)) then (.int (-1), (nI 5, σ.2.1, σ.2.2.1, σ.2.2.2.1, σ.2.2.2.2.1, σ.2.2.2.2.2.1, σ.2.2.2.2.2.2.1, σ.2.2.2.2.2.2.2.1, σ.2.2.2.2.2.2.2.2.1, σ.2.2.2.2.2.2.2.2.2)) else if (plR (txT σ.2.2.1 (a 1).toInt.toNat) (σ.2.2.2.2.2.2.2.2.2.2.1 σ.2.2.2.2.2.2.2.2.2.1, σ.2.2.2.2.2.2.2.2.2.2.2.1 σ.2.2.2.2.2.2.2.2.2.1)).2.2 = 0 then (.int (nI (plR (txT σ.2.2.1 (a 1).toInt.toNat) (σ.2.2.2.2.2.2.2.2.2.2.1 σ.2.2.2.2.2.2.2.2.2.1, σ.2.2.2.2.2.2.2.2.2.2.2.1 σ.2.2.2.2.2.2.2.2.2.1)).1.1), (nI 0, σ.2.1, ((0, σ.2.2.1.2) : Nat × (Nat → Int32)), (nI 0, -1), σ.2.2.2.2.1, σ.2.2.2.2.2.1, σ.2.2.2.2.2.2.1, σ.2.2.2.2.2.2.2.1, σ.2.2.2.2.2.2.2.2.1, (σ.2.2.2.2.2.2.2.2.2.1, up9 σ.2.2.2.2.2.2.2.2.2.1 σ.2.2.2.2.2.2.2.2.2.2.1 (plD (σ.2.2.2.2.2.2.2.2.2.2.1 σ.2.2.2.2.2.2.2.2.2.1) (plR (txT σ.2.2.1 (a 1).toInt.toNat) (σ.2.2.2.2.2.2.2.2.2.2.1 σ.2.2.2.2.2.2.2.2.2.1, σ.2.2.2.2.2.2.2.2.2.2.2.1 σ.2.2.2.2.2.2.2.2.2.1)).1), σ.2.2.2.2.2.2.2.2.2.2.2.1, σ.2.2.2.2.2.2.2.2.2.2.2.2))) else (.int (-1), (nI 10, σ.2.1, ((0, σ.2.2.1.2) : Nat × (Nat → Int32)), (nI (plR (txT σ.2.2.1 (a 1).toInt.toNat) (σ.2.2.2.2.2.2.2.2.2.2.1 σ.2.2.2.2.2.2.2.2.2.1, σ.2.2.2.2.2.2.2.2.2.2.2.1 σ.2.2.2.2.2.2.2.2.2.1)).2.2, nI (tA (txT σ.2.2.1 (a 1).toInt.toNat) (plR (txT σ.2.2.1 (a 1).toInt.toNat) (σ.2.2.2.2.2.2.2.2.2.2.1 σ.2.2.2.2.2.2.2.2.2.1, σ.2.2.2.2.2.2.2.2.2.2.2.1 σ.2.2.2.2.2.2.2.2.2.1)).2.1)), σ.2.2.2.2.1, σ.2.2.2.2.2.1, σ.2.2.2.2.2.2.1, σ.2.2.2.2.2.2.2.1, σ.2.2.2.2.2.2.2.2.1, (σ.2.2.2.2.2.2.2.2.2.1, σ.2.2.2.2.2.2.2.2.2.2.1, σ.2.2.2.2.2.2.2.2.2.2.2.1, σ.2.2.2.2.2.2.2.2.2.2.2.2)))

noncomputable def G9_mark (_ : Nat → Int32) (σ : Sg9) : Value × Sg9 := if σ.2.2.2.2.2.2.2.2.2.1 = 3 then (.int (-1), (nI 7, σ.2.1, σ.2.2.1, σ.2.2.2.1, σ.2.2.2.2.1, σ.2.2.2.2.2.1, σ.2.2.2.2.2.2.1, σ.2.2.2.2.2.2.2.1, σ.2.2.2.2.2.2.2.2.1, σ.2.2.2.2.2.2.2.2.2)) else (.int (nI (σ.2.2.2.2.2.2.2.2.2.1 + 1)), (nI 0, σ.2.1, σ.2.2.1, σ.2.2.2.1, σ.2.2.2.2.1, σ.2.2.2.2.2.1, σ.2.2.2.2.2.2.1, σ.2.2.2.2.2.2.2.1, σ.2.2.2.2.2.2.2.2.1, (σ.2.2.2.2.2.2.2.2.2.1 + 1, mkD σ.2.2.2.2.2.2.2.2.2.1 σ.2.2.2.2.2.2.2.2.2.2.1, mkW σ.2.2.2.2.2.2.2.2.2.1 σ.2.2.2.2.2.2.2.2.2.2.2.1, σ.2.2.2.2.2.2.2.2.2.2.2.2)))

noncomputable def G9_back (_ : Nat → Int32) (σ : Sg9) : Value × Sg9 := if σ.2.2.2.2.2.2.2.2.2.1 = 0 then (.int (-1), (nI 8, σ.2.1, σ.2.2.1, σ.2.2.2.1, σ.2.2.2.2.1, σ.2.2.2.2.2.1, σ.2.2.2.2.2.2.1, σ.2.2.2.2.2.2.2.1, σ.2.2.2.2.2.2.2.2.1, σ.2.2.2.2.2.2.2.2.2)) else (.int (nI (σ.2.2.2.2.2.2.2.2.2.1 - 1)), (nI 0, σ.2.1, σ.2.2.1, σ.2.2.2.1, σ.2.2.2.2.1, σ.2.2.2.2.2.1, σ.2.2.2.2.2.2.1, σ.2.2.2.2.2.2.2.1, σ.2.2.2.2.2.2.2.2.1, (σ.2.2.2.2.2.2.2.2.2.1 - 1, σ.2.2.2.2.2.2.2.2.2.2.1, σ.2.2.2.2.2.2.2.2.2.2.2.1, σ.2.2.2.2.2.2.2.2.2.2.2.2)))

theorem Y_st_newT {mk : Nat} {D : Nat → Td} {W : Nat → Nat → List Nat} {g g' d : Td} {w : Nat → List Nat} {M M' : Mem} (hG : ∀ i, i ≤ mk → Gd (D i) (W i)) (h : Y_st mk D W g M) (hb : Y_bk 0 0 d w M') (h5 : ∀ j, 650 ≤ j → j < 2600 → M'.1 5 j = M.1 5 j) (h6 : ∀ j, 26 ≤ j → j < 104 → M'.2.1 6 j = M.2.1 6 j) (h25 : M'.1 0 25 = M.1 0 25) (hs : ∀ j, 139 ≤ j → j < 155 → M'.1 5 (2600 + j) = nI (g' j)) : Y_st mk (up9 mk D d) (up9 mk W w) g' M' := Y_st_new hG h (by rw [up9_s]; exact hb) (fun i hi => up9_n (by omega)) h5 h6 h25 hs
theorem n9_eq {x : Int32} {n : Nat} (h : x = nI n) (hn : n ≤ 800) : x.toInt.toNat = n ∧ x.toInt = (n : Int) := by
  subst h
  exact ⟨r_tnn (by omega), r_tn (by omega)⟩
theorem fx_in {P : Nat → Nat → Prop} {M M' : Mem} (fr : ∀ o k, ¬ P o k → r_eq3 M M' o k) (hP : ∀ o k, P o k → r_in [(0, 0), (0, 6), (0, 7), (0, 8), (40, 1), (40, 6), (40, 7), (40, 8)] (43 :: 44 :: 45 :: cuA) o k = true) : r_fx [(0, 0), (0, 6), (0, 7), (0, 8), (40, 1), (40, 6), (40, 7), (40, 8)] (43 :: 44 :: 45 :: cuA) M M' := fun o k h => fr o k (fun z => by
  rw [hP o k z] at h
  cases h)
theorem in_cu {F : List (Nat × Nat)} {o k : Nat} (h : cuA.contains o = true) : r_in F (43 :: 44 :: 45 :: cuA) o k = true := r_in_A (contains_c (contains_c (contains_c h)))
theorem in_tk {o k : Nat} (h : (o = 40 ∧ (k = 1 ∨ (6 ≤ k ∧ k ≤ 8))) ∨ (43 ≤ o ∧ o ≤ 45)) : r_in [(0, 0), (0, 6), (0, 7), (0, 8), (40, 1), (40, 6), (40, 7), (40, 8)] (43 :: 44 :: 45 :: cuA) o k = true := by
  rcases h with ⟨rfl, h⟩ | h
  · rcases (show k = 1 ∨ k = 6 ∨ k = 7 ∨ k = 8 by omega) with rfl | rfl | rfl | rfl <;> decide +kernel
  · rcases (show o = 43 ∨ o = 44 ∨ o = 45 by omega) with rfl | rfl | rfl <;> exact r_in_A (by decide +kernel)
theorem in_0 {o k : Nat} (h : o = 0 ∧ (k = 0 ∨ k = 6 ∨ k = 7 ∨ k = 8)) : r_in [(0, 0), (0, 6), (0, 7), (0, 8), (40, 1), (40, 6), (40, 7), (40, 8)] (43 :: 44 :: 45 :: cuA) o k = true := by
  obtain ⟨rfl, h⟩ := h
  rcases h with rfl | rfl | rfl | rfl <;> decide +kernel
theorem tP_in {u lu pu mk o k : Nat} (hu : isTown u) (hl : isLaw lu) (hp : isPlan pu) (h : tP u lu pu mk o k) : r_in [(0, 0), (0, 6), (0, 7), (0, 8), (40, 1), (40, 6), (40, 7), (40, 8)] (43 :: 44 :: 45 :: cuA) o k = true := by
  rcases tP_9 h with y | y | y | y
  · exact in_cu (P9_cu hu hl hp y)
  · exact in_0 (by omega)
  · obtain ⟨rfl, _⟩ := y
    exact in_cu (by decide +kernel)
  · exact in_tk y
theorem lT_in {t lu o k : Nat} (ht : isTown t) (hl : isLaw lu) (h : lT t lu o k) : r_in [(0, 0), (0, 6), (0, 7), (0, 8), (40, 1), (40, 6), (40, 7), (40, 8)] (43 :: 44 :: 45 :: cuA) o k = true := by
  rcases h with y | y | y | y
  · obtain ⟨y1, y2⟩ := y
    obtain ⟨j, hj, rfl⟩ : ∃ j, j ≤ 3 ∧ o = lu + j := ⟨o - lu, by omega, by omega⟩
    exact in_cu (contains_c (contains_r (contains_l (lw_mem hl j (by omega)))))
  · exact in_0 (by omega)
  · rw [y.1]
    exact in_cu (contains_c (contains_l (tw_mem ht 0 (by decide))))
  · exact in_tk y
theorem tQ_in {t p mk o k : Nat} (ht : isTown t) (hp : isPlan p) (h : tQ t p mk o k) : r_in [(0, 0), (0, 6), (0, 7), (0, 8), (40, 1), (40, 6), (40, 7), (40, 8)] (43 :: 44 :: 45 :: cuA) o k = true := by
  rcases h with y | y | y | y
  · unfold pB at y
    obtain ⟨j, hj, rfl⟩ : ∃ j, j ≤ 4 ∧ o = p + j := ⟨o - p, by omega, by omega⟩
    exact in_cu (contains_c (contains_r (contains_r (pl_mem hp j (by omega)))))
  · exact in_0 (by omega)
  · rw [y.1]
    exact in_cu (contains_c (contains_l (tw_mem ht 0 (by decide))))
  · exact in_tk y

theorem ax_town (a : Nat → Int32) : r_api RXs GX 6 (lw_mX 8) (lw_av 8 a) (G9_town a) := by
  intro M σ Q h kk
  have hh := h
  obtain ⟨hS, hTr, hTp, hRg, hFt, hFr, hSp, hNt, hTh, hLv, hRs, hAl, hX, hG⟩ := h
  show Ca 6 mt_X11_town 0 0 [.ref 0, .int (a 1)] GX M Q
  obtain ⟨tw, lw, pl, hX9⟩ := hX
  have hX : X_sx σ.2.2.2.2.2.2.2.2.2.1 σ.2.2.2.2.2.2.2.2.2.2.1 σ.2.2.2.2.2.2.2.2.2.2.2.1 M := ⟨tw, lw, pl, hX9⟩
  have hcu := (X_st_cu hX9).1
  have hlv := (X_st_cu hX9).2
  have hg := hG _ (Nat.le_refl _)
  have hb := hX9.2.1
  have hc := hX9.2.2.1
  have hmk3 := hX9.1.2
  refine c_X11_town (u := tw 4) (lw2 := lw 4) (pl2 := pl 4) hcu hX9.2.2.2.2.1.2.1 (hb 4 (by decide)).1 (hc 4 (by decide)).1 (hc 4 (by decide)).2 (hb 4 (by decide)).2.1 (hb 4 (by decide)).2.2.1 (hb 4 (by decide)).2.2.2 hTp hRg hRs (fun h5 => ?_) (fun n9 en h1 h2 hbad M' fr h0 h40 hft lm9 h6 h2k => ?_) (fun n9 en h1 h2 hok M' fr h0 h40 hft cu9 tm9 bw9 lm9 h6 => ?_)
  · have e : G9_town a σ = (.int (-1), (nI 5, σ.2.1, σ.2.2.1, σ.2.2.2.1, σ.2.2.2.2.1, σ.2.2.2.2.2.1, σ.2.2.2.2.2.2.1, σ.2.2.2.2.2.2.2.1, σ.2.2.2.2.2.2.2.2.1, σ.2.2.2.2.2.2.2.2.2)) := if_pos h5
    rw [e] at kk
    have fx : r_fx [(0, 0)] [] M (r_sI M 0 0 (nI 5)) := r_fx.sI rfl r_fx.rf
    exact kk _ ⟨r_sI_s, ((X_tr_dp _).kp fx rfl hTr), ((X_tp_dp _).kp fx rfl hTp), hRg, ((X_ft_dp _).kp fx rfl hFt), ((X_fr_dp _).kp fx rfl hFr), ((X_sp_dp _).kp fx rfl hSp), ((X_nt_dp _).kp fx rfl hNt), ((X_th_dp _).kp fx rfl hTh), ((X_lv_dp _).kp fx rfl hLv), ((X_rs_dp).kp fx rfl hRs), ((X_hal_dp).kp fx rfl hAl), ((X_sx_dp hG).kp fx rfl hX), hG⟩
  · have e9 := n9_eq en (by omega)
    obtain ⟨e8, e7⟩ := e9
    subst e8
    have hc9 : ¬ ¬ (0 ≤ (a 1).toInt ∧ (a 1).toInt ≤ (σ.2.2.1.1 : Int) ∧ (a 1).toInt ≤ ((800 : Nat) : Int)) := fun z => z ⟨by omega, by omega, by omega⟩
    have e : G9_town a σ = _ := (if_neg hc9).trans (if_neg hbad)
    rw [e] at kk
    have fx : r_fx [(0, 0), (0, 6), (0, 7), (0, 8), (40, 1), (40, 6), (40, 7), (40, 8)] (43 :: 44 :: 45 :: cuA) M M' := fx_in fr (fun o k z => tP_in (hb 4 (by decide)).1 (hc 4 (by decide)).1 (hc 4 (by decide)).2 z)
    exact kk M' ⟨h0, ((X_tr_dp _).kp fx rfl hTr), ⟨h40, Nat.zero_le _, fun k hk => absurd hk (Nat.not_lt_zero _)⟩, (fun k hk => absurd hk (Nat.not_lt_zero _)), hft, ((X_fr_dp _).kp fx rfl hFr), ((X_sp_dp _).kp fx rfl hSp), ((X_nt_dp _).kp fx rfl hNt), ((X_th_dp _).kp fx rfl hTh), ((X_lv_dp _).kp fx rfl hLv), ((X_rs_dp).kp fx rfl hRs), ((X_hal_dp).kp fx rfl hAl), ⟨_, _, _, X_st_townF hG hX9 fr lm9 h6 h2k⟩, hG⟩
  · have e9 := n9_eq en (by omega)
    obtain ⟨e8, e7⟩ := e9
    subst e8
    have hc9 : ¬ ¬ (0 ≤ (a 1).toInt ∧ (a 1).toInt ≤ (σ.2.2.1.1 : Int) ∧ (a 1).toInt ≤ ((800 : Nat) : Int)) := fun z => z ⟨by omega, by omega, by omega⟩
    have e : G9_town a σ = _ := (if_neg hc9).trans (if_pos hok)
    rw [e] at kk
    have fx : r_fx [(0, 0), (0, 6), (0, 7), (0, 8), (40, 1), (40, 6), (40, 7), (40, 8)] (43 :: 44 :: 45 :: cuA) M M' := fx_in fr (fun o k z => tP_in (hb 4 (by decide)).1 (hc 4 (by decide)).1 (hc 4 (by decide)).2 z)
    exact kk M' ⟨h0, ((X_tr_dp _).kp fx rfl hTr), ⟨h40, Nat.zero_le _, fun k hk => absurd hk (Nat.not_lt_zero _)⟩, (fun k hk => absurd hk (Nat.not_lt_zero _)), hft, ((X_fr_dp _).kp fx rfl hFr), ((X_sp_dp _).kp fx rfl hSp), ((X_nt_dp _).kp fx rfl hNt), ((X_th_dp _).kp fx rfl hTh), ((X_lv_dp _).kp fx rfl hLv), ((X_rs_dp).kp fx rfl hRs), ((X_hal_dp).kp fx rfl hAl), ⟨_, _, _, X_st_town hG hX9 fr cu9 tm9 bw9 lm9 h6 (fun k hk z => absurd ((twR_z _ (21 + k) (by omega)).symm.trans z) (by decide)) (fun j hj => absurd (Nat.lt_of_lt_of_eq hj (twR_z _ 4 (Or.inl rfl))) (Nat.not_lt_zero _))⟩, (up9_gd hG (twR_gd _ (fun _ => [])))⟩

theorem ax_law (a : Nat → Int32) : r_api RXs GX 20 (lw_mX 9) (lw_av 9 a) (G9_law a) := by
  intro M σ Q h kk
  have hh := h
  obtain ⟨hS, hTr, hTp, hRg, hFt, hFr, hSp, hNt, hTh, hLv, hRs, hAl, hX, hG⟩ := h
  show Ca 20 mt_X11_law 0 0 [.ref 0, .int (a 1)] GX M Q
  obtain ⟨tw, lw, pl, hX9⟩ := hX
  have hX : X_sx σ.2.2.2.2.2.2.2.2.2.1 σ.2.2.2.2.2.2.2.2.2.2.1 σ.2.2.2.2.2.2.2.2.2.2.2.1 M := ⟨tw, lw, pl, hX9⟩
  have hcu := (X_st_cu hX9).1
  have hlv := (X_st_cu hX9).2
  have hg := hG _ (Nat.le_refl _)
  have hb := hX9.2.1
  have hc := hX9.2.2.1
  have hmk3 := hX9.1.2
  refine c_X11_law (lw2 := lw 5) (g := σ.2.2.2.2.2.2.2.2.2.2.2.2) hcu hlv.2.1 hg.1 hX9.2.2.2.2.1.2.2.1 (hc 5 (by decide)).1 hTp hRg hRs (fun h5 => ?_) (fun n9 en h1 h2 hbad M' fr h0 h40 hft h7 h19 => ?_) (fun n9 en h1 h2 hok M' fr h0 h40 hft la9 h7 h19 => ?_)
  · have e : G9_law a σ = (.int (-1), (nI 5, σ.2.1, σ.2.2.1, σ.2.2.2.1, σ.2.2.2.2.1, σ.2.2.2.2.2.1, σ.2.2.2.2.2.2.1, σ.2.2.2.2.2.2.2.1, σ.2.2.2.2.2.2.2.2.1, σ.2.2.2.2.2.2.2.2.2)) := if_pos h5
    rw [e] at kk
    have fx : r_fx [(0, 0)] [] M (r_sI M 0 0 (nI 5)) := r_fx.sI rfl r_fx.rf
    exact kk _ ⟨r_sI_s, ((X_tr_dp _).kp fx rfl hTr), ((X_tp_dp _).kp fx rfl hTp), hRg, ((X_ft_dp _).kp fx rfl hFt), ((X_fr_dp _).kp fx rfl hFr), ((X_sp_dp _).kp fx rfl hSp), ((X_nt_dp _).kp fx rfl hNt), ((X_th_dp _).kp fx rfl hTh), ((X_lv_dp _).kp fx rfl hLv), ((X_rs_dp).kp fx rfl hRs), ((X_hal_dp).kp fx rfl hAl), ((X_sx_dp hG).kp fx rfl hX), hG⟩
  · have e9 := n9_eq en (by omega)
    obtain ⟨e8, e7⟩ := e9
    subst e8
    have hc9 : ¬ ¬ (0 ≤ (a 1).toInt ∧ (a 1).toInt ≤ (σ.2.2.1.1 : Int) ∧ (a 1).toInt ≤ ((300 : Nat) : Int)) := fun z => z ⟨by omega, by omega, by omega⟩
    have e : G9_law a σ = _ := (if_neg hc9).trans (if_neg hbad)
    rw [e] at kk
    have fx : r_fx [(0, 0), (0, 6), (0, 7), (0, 8), (40, 1), (40, 6), (40, 7), (40, 8)] (43 :: 44 :: 45 :: cuA) M M' := fx_in fr (fun o k z => lT_in hcu.1.2.2.2 (hc 5 (by decide)).1 z)
    exact kk M' ⟨h0, ((X_tr_dp _).kp fx rfl hTr), ⟨h40, Nat.zero_le _, fun k hk => absurd hk (Nat.not_lt_zero _)⟩, (fun k hk => absurd hk (Nat.not_lt_zero _)), hft, ((X_fr_dp _).kp fx rfl hFr), ((X_sp_dp _).kp fx rfl hSp), ((X_nt_dp _).kp fx rfl hNt), ((X_th_dp _).kp fx rfl hTh), ((X_lv_dp _).kp fx rfl hLv), ((X_rs_dp).kp fx rfl hRs), ((X_hal_dp).kp fx rfl hAl), ⟨_, _, _, X_st_lawF hG hX9 fr h7 h19⟩, hG⟩
  · have e9 := n9_eq en (by omega)
    obtain ⟨e8, e7⟩ := e9
    subst e8
    have hc9 : ¬ ¬ (0 ≤ (a 1).toInt ∧ (a 1).toInt ≤ (σ.2.2.1.1 : Int) ∧ (a 1).toInt ≤ ((300 : Nat) : Int)) := fun z => z ⟨by omega, by omega, by omega⟩
    have hw9 := laR_w (x := (σ.2.2.2.2.2.2.2.2.2.2.1 σ.2.2.2.2.2.2.2.2.2.1, σ.2.2.2.2.2.2.2.2.2.2.2.1 σ.2.2.2.2.2.2.2.2.2.1)) (txT_w σ.2.2.1 (show (a 1).toInt.toNat ≤ 800 by omega)) h2 hg.1.1.1 σ.2.2.2.2.2.2.2.2.2.2.2.2 hok
    have e : G9_law a σ = _ := (if_neg hc9).trans (if_pos hok)
    rw [e] at kk
    have fx : r_fx [(0, 0), (0, 6), (0, 7), (0, 8), (40, 1), (40, 6), (40, 7), (40, 8)] (43 :: 44 :: 45 :: cuA) M M' := fx_in fr (fun o k z => lT_in hcu.1.2.2.2 (hc 5 (by decide)).1 z)
    exact kk M' ⟨h0, ((X_tr_dp _).kp fx rfl hTr), ⟨h40, Nat.zero_le _, fun k hk => absurd hk (Nat.not_lt_zero _)⟩, (fun k hk => absurd hk (Nat.not_lt_zero _)), hft, ((X_fr_dp _).kp fx rfl hFr), ((X_sp_dp _).kp fx rfl hSp), ((X_nt_dp _).kp fx rfl hNt), ((X_th_dp _).kp fx rfl hTh), ((X_lv_dp _).kp fx rfl hLv), ((X_rs_dp).kp fx rfl hRs), ((X_hal_dp).kp fx rfl hAl), ⟨_, _, _, X_st_law hG hX9 fr hw9.1 hw9.2.2 la9 h7 h19⟩, (up9_gd (w := σ.2.2.2.2.2.2.2.2.2.2.2.1 σ.2.2.2.2.2.2.2.2.2.1) hG ⟨lwD_wf rfl hw9.1 hg.1, lwD_wl hw9.1, lwD_wj hw9.2.2 hg.2.2.1, lwD_wn hw9.2.2 hg.2.2.2⟩)⟩

theorem ax_plan (a : Nat → Int32) : r_api RXs GX 6 (lw_mX 10) (lw_av 10 a) (G9_plan a) := by
  intro M σ Q h kk
  have hh := h
  obtain ⟨hS, hTr, hTp, hRg, hFt, hFr, hSp, hNt, hTh, hLv, hRs, hAl, hX, hG⟩ := h
  show Ca 6 mt_X11_plan 0 0 [.ref 0, .int (a 1)] GX M Q
  obtain ⟨tw, lw, pl, hX9⟩ := hX
  have hX : X_sx σ.2.2.2.2.2.2.2.2.2.1 σ.2.2.2.2.2.2.2.2.2.2.1 σ.2.2.2.2.2.2.2.2.2.2.2.1 M := ⟨tw, lw, pl, hX9⟩
  have hcu := (X_st_cu hX9).1
  have hlv := (X_st_cu hX9).2
  have hg := hG _ (Nat.le_refl _)
  have hb := hX9.2.1
  have hc := hX9.2.2.1
  have hmk3 := hX9.1.2
  refine c_X11_plan (pl2 := pl 5) hcu hlv.2.1 hg.1 hX9.2.2.2.2.1.2.2.2 (hc 5 (by decide)).2 hTp hRg hRs (fun h5 => ?_) (fun n9 en h1 h2 hbad M' fr h0 h40 hft h7 h19 => ?_) (fun n9 en h1 h2 hok M' fr h0 h40 hft jb9 hp9 h7 h19 => ?_)
  · have e : G9_plan a σ = (.int (-1), (nI 5, σ.2.1, σ.2.2.1, σ.2.2.2.1, σ.2.2.2.2.1, σ.2.2.2.2.2.1, σ.2.2.2.2.2.2.1, σ.2.2.2.2.2.2.2.1, σ.2.2.2.2.2.2.2.2.1, σ.2.2.2.2.2.2.2.2.2)) := if_pos h5
    rw [e] at kk
    have fx : r_fx [(0, 0)] [] M (r_sI M 0 0 (nI 5)) := r_fx.sI rfl r_fx.rf
    exact kk _ ⟨r_sI_s, ((X_tr_dp _).kp fx rfl hTr), ((X_tp_dp _).kp fx rfl hTp), hRg, ((X_ft_dp _).kp fx rfl hFt), ((X_fr_dp _).kp fx rfl hFr), ((X_sp_dp _).kp fx rfl hSp), ((X_nt_dp _).kp fx rfl hNt), ((X_th_dp _).kp fx rfl hTh), ((X_lv_dp _).kp fx rfl hLv), ((X_rs_dp).kp fx rfl hRs), ((X_hal_dp).kp fx rfl hAl), ((X_sx_dp hG).kp fx rfl hX), hG⟩
  · have e9 := n9_eq en (by omega)
    obtain ⟨e8, e7⟩ := e9
    subst e8
    have hc9 : ¬ ¬ (0 ≤ (a 1).toInt ∧ (a 1).toInt ≤ (σ.2.2.1.1 : Int) ∧ (a 1).toInt ≤ ((300 : Nat) : Int)) := fun z => z ⟨by omega, by omega, by omega⟩
    have e : G9_plan a σ = _ := (if_neg hc9).trans (if_neg hbad)
    rw [e] at kk
    have fx : r_fx [(0, 0), (0, 6), (0, 7), (0, 8), (40, 1), (40, 6), (40, 7), (40, 8)] (43 :: 44 :: 45 :: cuA) M M' := fx_in fr (fun o k z => tQ_in hcu.1.2.2.2 (hc 5 (by decide)).2 z)
    exact kk M' ⟨h0, ((X_tr_dp _).kp fx rfl hTr), ⟨h40, Nat.zero_le _, fun k hk => absurd hk (Nat.not_lt_zero _)⟩, (fun k hk => absurd hk (Nat.not_lt_zero _)), hft, ((X_fr_dp _).kp fx rfl hFr), ((X_sp_dp _).kp fx rfl hSp), ((X_nt_dp _).kp fx rfl hNt), ((X_th_dp _).kp fx rfl hTh), ((X_lv_dp _).kp fx rfl hLv), ((X_rs_dp).kp fx rfl hRs), ((X_hal_dp).kp fx rfl hAl), ⟨_, _, _, X_st_planF hG hX9 fr h7 h19⟩, hG⟩
  · have e9 := n9_eq en (by omega)
    obtain ⟨e8, e7⟩ := e9
    subst e8
    have hc9 : ¬ ¬ (0 ≤ (a 1).toInt ∧ (a 1).toInt ≤ (σ.2.2.1.1 : Int) ∧ (a 1).toInt ≤ ((300 : Nat) : Int)) := fun z => z ⟨by omega, by omega, by omega⟩
    have hw9 := plR_w (txT σ.2.2.1 (a 1).toInt.toNat) (σ.2.2.2.2.2.2.2.2.2.2.1 σ.2.2.2.2.2.2.2.2.2.1, σ.2.2.2.2.2.2.2.2.2.2.2.1 σ.2.2.2.2.2.2.2.2.2.1)
    have e : G9_plan a σ = _ := (if_neg hc9).trans (if_pos hok)
    rw [e] at kk
    have fx : r_fx [(0, 0), (0, 6), (0, 7), (0, 8), (40, 1), (40, 6), (40, 7), (40, 8)] (43 :: 44 :: 45 :: cuA) M M' := fx_in fr (fun o k z => tQ_in hcu.1.2.2.2 (hc 5 (by decide)).2 z)
    exact kk M' ⟨h0, ((X_tr_dp _).kp fx rfl hTr), ⟨h40, Nat.zero_le _, fun k hk => absurd hk (Nat.not_lt_zero _)⟩, (fun k hk => absurd hk (Nat.not_lt_zero _)), hft, ((X_fr_dp _).kp fx rfl hFr), ((X_sp_dp _).kp fx rfl hSp), ((X_nt_dp _).kp fx rfl hNt), ((X_th_dp _).kp fx rfl hTh), ((X_lv_dp _).kp fx rfl hLv), ((X_rs_dp).kp fx rfl hRs), ((X_hal_dp).kp fx rfl hAl), ⟨_, _, _, X_st_plan hG hX9 fr jb9 hp9 h7 h19⟩, (up9_gd (w := σ.2.2.2.2.2.2.2.2.2.2.2.1 σ.2.2.2.2.2.2.2.2.2.1) hG ⟨plD_wf hg.1 hw9.2, plD_wl hg.2.1, plD_wj hw9.1, plD_wn (plR_u _ _)⟩)⟩

theorem ax_mark (a : Nat → Int32) : r_api RXs GX 5 (lw_mX 42) (lw_av 42 a) (G9_mark a) := by
  intro M σ Q h kk
  have hh := h
  obtain ⟨hS, hTr, hTp, hRg, hFt, hFr, hSp, hNt, hTh, hLv, hRs, hAl, hX, hG⟩ := h
  show Ca 5 mt_X11_mark 0 0 [.ref 0] GX M Q
  obtain ⟨tw, lw, pl, hX9⟩ := hX
  have hX : X_sx σ.2.2.2.2.2.2.2.2.2.1 σ.2.2.2.2.2.2.2.2.2.2.1 σ.2.2.2.2.2.2.2.2.2.2.2.1 M := ⟨tw, lw, pl, hX9⟩
  have hmk3 := hX9.1.2
  refine c_X11_mark hG hX9 (fun e9 => ?_) (fun e9 M' fx hs hx => ?_)
  · have e : G9_mark a σ = _ := if_pos e9
    rw [e] at kk
    have fx : r_fx [(0, 0)] [] M (r_sI M 0 0 (nI 7)) := r_fx.sI rfl r_fx.rf
    exact kk _ ⟨r_sI_s, ((X_tr_dp _).kp fx rfl hTr), ((X_tp_dp _).kp fx rfl hTp), hRg, ((X_ft_dp _).kp fx rfl hFt), ((X_fr_dp _).kp fx rfl hFr), ((X_sp_dp _).kp fx rfl hSp), ((X_nt_dp _).kp fx rfl hNt), ((X_th_dp _).kp fx rfl hTh), ((X_lv_dp _).kp fx rfl hLv), ((X_rs_dp).kp fx rfl hRs), ((X_hal_dp).kp fx rfl hAl), ((X_sx_dp hG).kp fx rfl hX), hG⟩
  · have e : G9_mark a σ = _ := if_neg (by omega)
    rw [e] at kk
    exact kk M' ⟨hs, ((X_tr_dp _).kp fx rfl hTr), ((X_tp_dp _).kp fx rfl hTp), hRg, ((X_ft_dp _).kp fx rfl hFt), ((X_fr_dp _).kp fx rfl hFr), ((X_sp_dp _).kp fx rfl hSp), ((X_nt_dp _).kp fx rfl hNt), ((X_th_dp _).kp fx rfl hTh), ((X_lv_dp _).kp fx rfl hLv), ((X_rs_dp).kp fx rfl hRs), ((X_hal_dp).kp fx rfl hAl), ⟨tw, lw, pl, hx⟩, (mk_gd hG)⟩

theorem ax_back (a : Nat → Int32) : r_api RXs GX 5 (lw_mX 43) (lw_av 43 a) (G9_back a) := by
  intro M σ Q h kk
  have hh := h
  obtain ⟨hS, hTr, hTp, hRg, hFt, hFr, hSp, hNt, hTh, hLv, hRs, hAl, hX, hG⟩ := h
  show Ca 5 mt_X11_back 0 0 [.ref 0] GX M Q
  obtain ⟨tw, lw, pl, hX9⟩ := hX
  have hX : X_sx σ.2.2.2.2.2.2.2.2.2.1 σ.2.2.2.2.2.2.2.2.2.2.1 σ.2.2.2.2.2.2.2.2.2.2.2.1 M := ⟨tw, lw, pl, hX9⟩
  have hmk3 := hX9.1.2
  refine c_X11_back hG hX9 (fun e9 => ?_) (fun e9 M' fx hs hx => ?_)
  · have e : G9_back a σ = _ := if_pos e9
    rw [e] at kk
    have fx : r_fx [(0, 0)] [] M (r_sI M 0 0 (nI 8)) := r_fx.sI rfl r_fx.rf
    exact kk _ ⟨r_sI_s, ((X_tr_dp _).kp fx rfl hTr), ((X_tp_dp _).kp fx rfl hTp), hRg, ((X_ft_dp _).kp fx rfl hFt), ((X_fr_dp _).kp fx rfl hFr), ((X_sp_dp _).kp fx rfl hSp), ((X_nt_dp _).kp fx rfl hNt), ((X_th_dp _).kp fx rfl hTh), ((X_lv_dp _).kp fx rfl hLv), ((X_rs_dp).kp fx rfl hRs), ((X_hal_dp).kp fx rfl hAl), ((X_sx_dp hG).kp fx rfl hX), hG⟩
  · have e : G9_back a σ = _ := if_neg (by omega)
    rw [e] at kk
    exact kk M' ⟨hs, ((X_tr_dp _).kp fx rfl hTr), ((X_tp_dp _).kp fx rfl hTp), hRg, ((X_ft_dp _).kp fx rfl hFt), ((X_fr_dp _).kp fx rfl hFr), ((X_sp_dp _).kp fx rfl hSp), ((X_nt_dp _).kp fx rfl hNt), ((X_th_dp _).kp fx rfl hTh), ((X_lv_dp _).kp fx rfl hLv), ((X_rs_dp).kp fx rfl hRs), ((X_hal_dp).kp fx rfl hAl), ⟨tw, lw, pl, hx⟩, (fun i hi => hG i (Nat.le_trans hi (Nat.sub_le _ _)))⟩

theorem ay_town (a : Nat → Int32) : r_api RYs GY 8 (lw_mY 8) (lw_av 8 a) (G9_town a) := by
  intro M σ Q h kk
  have hh := h
  obtain ⟨hS, hTr, hTp, hFt, hFr, hSp, hNt, hTh, hLv, hY, hG⟩ := h
  show Ca 8 mt_X12_town 0 0 [.ref 0, .int (a 1)] GY M Q
  have hg := hG _ (Nat.le_refl _)
  have hy0 := Y_bk_tm hY.2.1
  refine c_X12_town hTp (fun h5 M' fx hs => ?_) (fun n9 en h1 h2 hbad M' fx c5 c6 sc h8 hs h10 h11 => ?_) (fun n9 en h1 h2 hok M' fx bl hc hw sc h8 hs h10 h11 => ?_)
  · have e : G9_town a σ = (.int (-1), (nI 5, σ.2.1, σ.2.2.1, σ.2.2.2.1, σ.2.2.2.2.1, σ.2.2.2.2.2.1, σ.2.2.2.2.2.2.1, σ.2.2.2.2.2.2.2.1, σ.2.2.2.2.2.2.2.2.1, σ.2.2.2.2.2.2.2.2.2)) := if_pos (by omega)
    rw [e] at kk
    exact kk M' ⟨hs, ((Y_tr_dp _).kp fx rfl hTr), ((Y_tp_dp _).kp fx rfl hTp), ((Y_ft_dp _).kp fx rfl hFt), ((Y_fr_dp _).kp fx rfl hFr), ((Y_sp_dp _).kp fx rfl hSp), ((Y_nt_dp _).kp fx rfl hNt), ((Y_th_dp _).kp fx rfl hTh), ((Y_lv_dp _).kp fx rfl hLv), ((Y_st_dp hG).kp fx rfl hY), hG⟩
  · have e9 := n9_eq en (by omega)
    obtain ⟨e8, e7⟩ := e9
    subst e8
    have hc9 : ¬ ¬ (0 ≤ (a 1).toInt ∧ (a 1).toInt ≤ (σ.2.2.1.1 : Int) ∧ (a 1).toInt ≤ ((800 : Nat) : Int)) := fun z => z ⟨by omega, by omega, by omega⟩
    have e : G9_town a σ = _ := (if_neg hc9).trans (if_neg hbad)
    rw [e] at kk
    exact kk M' ⟨hs, ((Y_tr_dp _).kp fx rfl hTr), ⟨h8, Nat.zero_le _, fun k hk => absurd hk (Nat.not_lt_zero _)⟩, ⟨h10, h11⟩, ((Y_fr_dp _).kp fx rfl hFr), ((Y_sp_dp _).kp fx rfl hSp), ((Y_nt_dp _).kp fx rfl hNt), ((Y_th_dp _).kp fx rfl hTh), ((Y_lv_dp _).kp fx rfl hLv), Y_st_keep hG hY c5 c6 (fx 0 25 rfl).1 sc, hG⟩
  · have e9 := n9_eq en (by omega)
    obtain ⟨e8, e7⟩ := e9
    subst e8
    have hc9 : ¬ ¬ (0 ≤ (a 1).toInt ∧ (a 1).toInt ≤ (σ.2.2.1.1 : Int) ∧ (a 1).toInt ≤ ((800 : Nat) : Int)) := fun z => z ⟨by omega, by omega, by omega⟩
    have e : G9_town a σ = _ := (if_neg hc9).trans (if_pos hok)
    rw [e] at kk
    exact kk M' ⟨hs, ((Y_tr_dp _).kp fx rfl hTr), ⟨h8, Nat.zero_le _, fun k hk => absurd hk (Nat.not_lt_zero _)⟩, ⟨h10, h11⟩, ((Y_fr_dp _).kp fx rfl hFr), ((Y_sp_dp _).kp fx rfl hSp), ((Y_nt_dp _).kp fx rfl hNt), ((Y_th_dp _).kp fx rfl hTh), ((Y_lv_dp _).kp fx rfl hLv), Y_st_newT hG hY (Y_bk_town hc (twR_z _ 4 (Or.inl rfl)) hw) bl.1 bl.2 (fx 0 25 rfl).1 sc, (up9_gd hG (twR_gd _ (fun _ => [])))⟩

theorem ay_law (a : Nat → Int32) : r_api RYs GY 30 (lw_mY 9) (lw_av 9 a) (G9_law a) := by
  intro M σ Q h kk
  have hh := h
  obtain ⟨hS, hTr, hTp, hFt, hFr, hSp, hNt, hTh, hLv, hY, hG⟩ := h
  show Ca 30 mt_X12_law 0 0 [.ref 0, .int (a 1)] GY M Q
  have hg := hG _ (Nat.le_refl _)
  have hy0 := Y_bk_tm hY.2.1
  refine c_X12_law (x := (σ.2.2.2.2.2.2.2.2.2.2.1 σ.2.2.2.2.2.2.2.2.2.1, σ.2.2.2.2.2.2.2.2.2.2.2.1 σ.2.2.2.2.2.2.2.2.2.1)) (g := σ.2.2.2.2.2.2.2.2.2.2.2.2) hTp hg.1 (Y_bk_wm hY.2.1) hY.2.2.2 (fun h5 M' fx hs => ?_) (fun n9 en h1 h2 hbad M' fx kc sc h8 hs h10 h11 => ?_) (fun n9 en h1 h2 hok M' fx kc rc sc h8 hs h10 h11 => ?_)
  · have e : G9_law a σ = (.int (-1), (nI 5, σ.2.1, σ.2.2.1, σ.2.2.2.1, σ.2.2.2.2.1, σ.2.2.2.2.2.1, σ.2.2.2.2.2.2.1, σ.2.2.2.2.2.2.2.1, σ.2.2.2.2.2.2.2.2.1, σ.2.2.2.2.2.2.2.2.2)) := if_pos (by omega)
    rw [e] at kk
    exact kk M' ⟨hs, ((Y_tr_dp _).kp fx rfl hTr), ((Y_tp_dp _).kp fx rfl hTp), ((Y_ft_dp _).kp fx rfl hFt), ((Y_fr_dp _).kp fx rfl hFr), ((Y_sp_dp _).kp fx rfl hSp), ((Y_nt_dp _).kp fx rfl hNt), ((Y_th_dp _).kp fx rfl hTh), ((Y_lv_dp _).kp fx rfl hLv), ((Y_st_dp hG).kp fx rfl hY), hG⟩
  · have e9 := n9_eq en (by omega)
    obtain ⟨e8, e7⟩ := e9
    subst e8
    have hc9 : ¬ ¬ (0 ≤ (a 1).toInt ∧ (a 1).toInt ≤ (σ.2.2.1.1 : Int) ∧ (a 1).toInt ≤ ((300 : Nat) : Int)) := fun z => z ⟨by omega, by omega, by omega⟩
    have e : G9_law a σ = _ := (if_neg hc9).trans (if_neg hbad)
    rw [e] at kk
    exact kk M' ⟨hs, ((Y_tr_dp _).kp fx rfl hTr), ⟨h8, Nat.zero_le _, fun k hk => absurd hk (Nat.not_lt_zero _)⟩, ⟨h10, h11⟩, ((Y_fr_dp _).kp fx rfl hFr), ((Y_sp_dp _).kp fx rfl hSp), ((Y_nt_dp _).kp fx rfl hNt), ((Y_th_dp _).kp fx rfl hTh), ((Y_lv_dp _).kp fx rfl hLv), Y_st_keep hG hY kc (fun j _ => (fx 6 j rfl).2.1) (fx 0 25 rfl).1 sc, hG⟩
  · have e9 := n9_eq en (by omega)
    obtain ⟨e8, e7⟩ := e9
    subst e8
    have hc9 : ¬ ¬ (0 ≤ (a 1).toInt ∧ (a 1).toInt ≤ (σ.2.2.1.1 : Int) ∧ (a 1).toInt ≤ ((300 : Nat) : Int)) := fun z => z ⟨by omega, by omega, by omega⟩
    have hw9 := laR_w (x := (σ.2.2.2.2.2.2.2.2.2.2.1 σ.2.2.2.2.2.2.2.2.2.1, σ.2.2.2.2.2.2.2.2.2.2.2.1 σ.2.2.2.2.2.2.2.2.2.1)) (txT_w σ.2.2.1 (show (a 1).toInt.toNat ≤ 800 by omega)) h2 hg.1.1.1 σ.2.2.2.2.2.2.2.2.2.2.2.2 hok
    have e : G9_law a σ = _ := (if_neg hc9).trans (if_pos hok)
    rw [e] at kk
    exact kk M' ⟨hs, ((Y_tr_dp _).kp fx rfl hTr), ⟨h8, Nat.zero_le _, fun k hk => absurd hk (Nat.not_lt_zero _)⟩, ⟨h10, h11⟩, ((Y_fr_dp _).kp fx rfl hFr), ((Y_sp_dp _).kp fx rfl hSp), ((Y_nt_dp _).kp fx rfl hNt), ((Y_th_dp _).kp fx rfl hTh), ((Y_lv_dp _).kp fx rfl hLv), Y_st_new hG hY (Y_bk_law hY.2.1 hg.1 hw9.2.2 kc rc (fun j => (fx 6 j rfl).2.1)) (fun _ _ => rfl) (fun j j1 j2 => kc j j2 (by have := hw9.2.2; omega)) (fun j _ _ => (fx 6 j rfl).2.1) (fx 0 25 rfl).1 sc, (up9_gd (w := σ.2.2.2.2.2.2.2.2.2.2.2.1 σ.2.2.2.2.2.2.2.2.2.1) hG ⟨lwD_wf rfl hw9.1 hg.1, lwD_wl hw9.1, lwD_wj hw9.2.2 hg.2.2.1, lwD_wn hw9.2.2 hg.2.2.2⟩)⟩

theorem ay_plan (a : Nat → Int32) : r_api RYs GY 8 (lw_mY 10) (lw_av 10 a) (G9_plan a) := by
  intro M σ Q h kk
  have hh := h
  obtain ⟨hS, hTr, hTp, hFt, hFr, hSp, hNt, hTh, hLv, hY, hG⟩ := h
  show Ca 8 mt_X12_plan 0 0 [.ref 0, .int (a 1)] GY M Q
  have hg := hG _ (Nat.le_refl _)
  have hy0 := Y_bk_tm hY.2.1
  refine c_X12_plan (x := (σ.2.2.2.2.2.2.2.2.2.2.1 σ.2.2.2.2.2.2.2.2.2.1, σ.2.2.2.2.2.2.2.2.2.2.2.1 σ.2.2.2.2.2.2.2.2.2.1)) hTp hg.1 (Y_bk_wm hY.2.1) (fun h5 M' fx hs => ?_) (fun n9 en h1 h2 hbad M' fx kc h8 hs h10 h11 => ?_) (fun n9 en h1 h2 hok M' fx kc h4 h520 jd h8 hs h10 h11 => ?_)
  · have e : G9_plan a σ = (.int (-1), (nI 5, σ.2.1, σ.2.2.1, σ.2.2.2.1, σ.2.2.2.2.1, σ.2.2.2.2.2.1, σ.2.2.2.2.2.2.1, σ.2.2.2.2.2.2.2.1, σ.2.2.2.2.2.2.2.2.1, σ.2.2.2.2.2.2.2.2.2)) := if_pos (by omega)
    rw [e] at kk
    exact kk M' ⟨hs, ((Y_tr_dp _).kp fx rfl hTr), ((Y_tp_dp _).kp fx rfl hTp), ((Y_ft_dp _).kp fx rfl hFt), ((Y_fr_dp _).kp fx rfl hFr), ((Y_sp_dp _).kp fx rfl hSp), ((Y_nt_dp _).kp fx rfl hNt), ((Y_th_dp _).kp fx rfl hTh), ((Y_lv_dp _).kp fx rfl hLv), ((Y_st_dp hG).kp fx rfl hY), hG⟩
  · have e9 := n9_eq en (by omega)
    obtain ⟨e8, e7⟩ := e9
    subst e8
    have hc9 : ¬ ¬ (0 ≤ (a 1).toInt ∧ (a 1).toInt ≤ (σ.2.2.1.1 : Int) ∧ (a 1).toInt ≤ ((300 : Nat) : Int)) := fun z => z ⟨by omega, by omega, by omega⟩
    have e : G9_plan a σ = _ := (if_neg hc9).trans (if_neg hbad)
    rw [e] at kk
    exact kk M' ⟨hs, ((Y_tr_dp _).kp fx rfl hTr), ⟨h8, Nat.zero_le _, fun k hk => absurd hk (Nat.not_lt_zero _)⟩, ⟨h10, h11⟩, ((Y_fr_dp _).kp fx rfl hFr), ((Y_sp_dp _).kp fx rfl hSp), ((Y_nt_dp _).kp fx rfl hNt), ((Y_th_dp _).kp fx rfl hTh), ((Y_lv_dp _).kp fx rfl hLv), Y_st_keep hG hY (fun j hj => kc j (by omega)) (fun j _ => (fx 6 j rfl).2.1) (fx 0 25 rfl).1 (fun j j1 j2 => (kc _ (by omega)).trans (hY.2.2.2 j j1 j2)), hG⟩
  · have e9 := n9_eq en (by omega)
    obtain ⟨e8, e7⟩ := e9
    subst e8
    have hc9 : ¬ ¬ (0 ≤ (a 1).toInt ∧ (a 1).toInt ≤ (σ.2.2.1.1 : Int) ∧ (a 1).toInt ≤ ((300 : Nat) : Int)) := fun z => z ⟨by omega, by omega, by omega⟩
    have hw9 := plR_w (txT σ.2.2.1 (a 1).toInt.toNat) (σ.2.2.2.2.2.2.2.2.2.2.1 σ.2.2.2.2.2.2.2.2.2.1, σ.2.2.2.2.2.2.2.2.2.2.2.1 σ.2.2.2.2.2.2.2.2.2.1)
    have e : G9_plan a σ = _ := (if_neg hc9).trans (if_pos hok)
    rw [e] at kk
    exact kk M' ⟨hs, ((Y_tr_dp _).kp fx rfl hTr), ⟨h8, Nat.zero_le _, fun k hk => absurd hk (Nat.not_lt_zero _)⟩, ⟨h10, h11⟩, ((Y_fr_dp _).kp fx rfl hFr), ((Y_sp_dp _).kp fx rfl hSp), ((Y_nt_dp _).kp fx rfl hNt), ((Y_th_dp _).kp fx rfl hTh), ((Y_lv_dp _).kp fx rfl hLv), Y_st_new hG hY (Y_bk_plan hY.2.1 hg.1 kc h4 h520 jd (fun j => (fx 6 j rfl).2.1)) (fun _ _ => rfl) (fun j j1 j2 => kc j (by omega) (by omega) (by omega) (by omega)) (fun j _ _ => (fx 6 j rfl).2.1) (fx 0 25 rfl).1 (fun j j1 j2 => (kc _ (by omega) (by omega) (by omega) (by omega)).trans (hY.2.2.2 j j1 j2)), (up9_gd (w := σ.2.2.2.2.2.2.2.2.2.2.2.1 σ.2.2.2.2.2.2.2.2.2.1) hG ⟨plD_wf hg.1 hw9.2, plD_wl hg.2.1, plD_wj hw9.1, plD_wn (plR_u _ _)⟩)⟩

theorem ay_mark (a : Nat → Int32) : r_api RYs GY 4 (lw_mY 42) (lw_av 42 a) (G9_mark a) := by
  intro M σ Q h kk
  have hh := h
  obtain ⟨hS, hTr, hTp, hFt, hFr, hSp, hNt, hTh, hLv, hY, hG⟩ := h
  show Ca 4 mt_X12_mark 0 0 [.ref 0] GY M Q
  have hmk3 := hY.1.2
  refine c_X12_mark hY.1.1 hY.1.2 (fun e9 M' fx hs => ?_) (fun e9 M' fx hs h25 hc => ?_)
  · have e : G9_mark a σ = _ := if_pos e9
    rw [e] at kk
    exact kk M' ⟨hs, ((Y_tr_dp _).kp fx rfl hTr), ((Y_tp_dp _).kp fx rfl hTp), ((Y_ft_dp _).kp fx rfl hFt), ((Y_fr_dp _).kp fx rfl hFr), ((Y_sp_dp _).kp fx rfl hSp), ((Y_nt_dp _).kp fx rfl hNt), ((Y_th_dp _).kp fx rfl hTh), ((Y_lv_dp _).kp fx rfl hLv), ((Y_st_dp hG).kp fx rfl hY), hG⟩
  · have e : G9_mark a σ = _ := if_neg (by omega)
    rw [e] at kk
    exact kk M' ⟨hs, ((Y_tr_dp _).kp fx rfl hTr), ((Y_tp_dp _).kp fx rfl hTp), ((Y_ft_dp _).kp fx rfl hFt), ((Y_fr_dp _).kp fx rfl hFr), ((Y_sp_dp _).kp fx rfl hSp), ((Y_nt_dp _).kp fx rfl hNt), ((Y_th_dp _).kp fx rfl hTh), ((Y_lv_dp _).kp fx rfl hLv), (Y_st_mark hG e9 hY h25 hc), (mk_gd hG)⟩

theorem ay_back (a : Nat → Int32) : r_api RYs GY 4 (lw_mY 43) (lw_av 43 a) (G9_back a) := by
  intro M σ Q h kk
  have hh := h
  obtain ⟨hS, hTr, hTp, hFt, hFr, hSp, hNt, hTh, hLv, hY, hG⟩ := h
  show Ca 4 mt_X12_back 0 0 [.ref 0] GY M Q
  have hmk3 := hY.1.2
  refine c_X12_back hY.1.1 hY.1.2 (fun e9 M' fx hs => ?_) (fun e9 M' fx hs h25 hc => ?_)
  · have e : G9_back a σ = _ := if_pos e9
    rw [e] at kk
    exact kk M' ⟨hs, ((Y_tr_dp _).kp fx rfl hTr), ((Y_tp_dp _).kp fx rfl hTp), ((Y_ft_dp _).kp fx rfl hFt), ((Y_fr_dp _).kp fx rfl hFr), ((Y_sp_dp _).kp fx rfl hSp), ((Y_nt_dp _).kp fx rfl hNt), ((Y_th_dp _).kp fx rfl hTh), ((Y_lv_dp _).kp fx rfl hLv), ((Y_st_dp hG).kp fx rfl hY), hG⟩
  · have e : G9_back a σ = _ := if_neg (by omega)
    rw [e] at kk
    exact kk M' ⟨hs, ((Y_tr_dp _).kp fx rfl hTr), ((Y_tp_dp _).kp fx rfl hTp), ((Y_ft_dp _).kp fx rfl hFt), ((Y_fr_dp _).kp fx rfl hFr), ((Y_sp_dp _).kp fx rfl hSp), ((Y_nt_dp _).kp fx rfl hNt), ((Y_th_dp _).kp fx rfl hTh), ((Y_lv_dp _).kp fx rfl hLv), (Y_st_back hG e9 hY h25 hc), (fun i hi => hG i (Nat.le_trans hi (Nat.sub_le _ _)))⟩
