-- THE WHOLE: all calls, the start

noncomputable def F9 (k : Nat) (a : Nat → Int32) : Sg9 → Value × Sg9 := match k with
  | 0 => G9_status a
  | 1 => G9_top a
  | 2 => G9_bottom a
  | 3 => G9_tray a
  | 4 => G9_write a
  | 5 => G9_read a
  | 6 => G9_pour a
  | 7 => G9_feed a
  | 8 => G9_town a
  | 9 => G9_law a
  | 10 => G9_plan a
  | 11 => G9_fault a
  | 12 => G9_many a
  | 13 => G9_thing a
  | 14 => G9_making a
  | 15 => G9_awake a
  | 16 => G9_want a
  | 17 => G9_night a
  | 18 => G9_soonest a
  | 19 => G9_bars a
  | 20 => G9_labour a
  | 21 => G9_hands a
  | 22 => G9_day a
  | 23 => G9_days a
  | 24 => G9_step a
  | 25 => G9_stepTime a
  | 26 => G9_firstNight a
  | 27 => G9_price a
  | 28 => G9_kept a
  | 29 => G9_bestKept a
  | 30 => G9_more a
  | 31 => G9_bestMore a
  | 32 => G9_shift a
  | 33 => G9_west a
  | 34 => G9_speed a
  | 35 => G9_way a
  | 36 => G9_judged a
  | 37 => G9_done a
  | 38 => G9_there a
  | 39 => G9_lives a
  | 40 => G9_ill a
  | 41 => G9_lived a
  | 42 => G9_mark a
  | 43 => G9_back a
  | _ => G9_status a

def h9X (k : Nat) : Nat := match k with
  | 0 => 0
  | 1 => 0
  | 2 => 0
  | 3 => 1
  | 4 => 2
  | 5 => 2
  | 6 => 2
  | 7 => 1
  | 8 => 6
  | 9 => 20
  | 10 => 6
  | 11 => 0
  | 12 => 1
  | 13 => 3
  | 14 => 1
  | 15 => 1
  | 16 => 1
  | 17 => 3
  | 18 => 3
  | 19 => 3
  | 20 => 3
  | 21 => 5
  | 22 => 6
  | 23 => 6
  | 24 => 1
  | 25 => 1
  | 26 => 1
  | 27 => 6
  | 28 => 6
  | 29 => 6
  | 30 => 6
  | 31 => 6
  | 32 => 1
  | 33 => 1
  | 34 => 1
  | 35 => 3
  | 36 => 6
  | 37 => 6
  | 38 => 1
  | 39 => 6
  | 40 => 6
  | 41 => 1
  | 42 => 5
  | 43 => 5
  | _ => 0

theorem apX : ∀ k, k < 44 → ∀ a, r_api RXs GX (h9X k) (lw_mX k) (lw_av k a) (F9 k a)
  | 0, _, a => ax_status a
  | 1, _, a => ax_top a
  | 2, _, a => ax_bottom a
  | 3, _, a => ax_tray a
  | 4, _, a => ax_write a
  | 5, _, a => ax_read a
  | 6, _, a => ax_pour a
  | 7, _, a => ax_feed a
  | 8, _, a => ax_town a
  | 9, _, a => ax_law a
  | 10, _, a => ax_plan a
  | 11, _, a => ax_fault a
  | 12, _, a => ax_many a
  | 13, _, a => ax_thing a
  | 14, _, a => ax_making a
  | 15, _, a => ax_awake a
  | 16, _, a => ax_want a
  | 17, _, a => ax_night a
  | 18, _, a => ax_soonest a
  | 19, _, a => ax_bars a
  | 20, _, a => ax_labour a
  | 21, _, a => ax_hands a
  | 22, _, a => ax_day a
  | 23, _, a => ax_days a
  | 24, _, a => ax_step a
  | 25, _, a => ax_stepTime a
  | 26, _, a => ax_firstNight a
  | 27, _, a => ax_price a
  | 28, _, a => ax_kept a
  | 29, _, a => ax_bestKept a
  | 30, _, a => ax_more a
  | 31, _, a => ax_bestMore a
  | 32, _, a => ax_shift a
  | 33, _, a => ax_west a
  | 34, _, a => ax_speed a
  | 35, _, a => ax_way a
  | 36, _, a => ax_judged a
  | 37, _, a => ax_done a
  | 38, _, a => ax_there a
  | 39, _, a => ax_lives a
  | 40, _, a => ax_ill a
  | 41, _, a => ax_lived a
  | 42, _, a => ax_mark a
  | 43, _, a => ax_back a
  | k + 44, h, _ => absurd h (by omega)

theorem h9X_le : ∀ k, h9X k ≤ 1000
  | 0 => by decide
  | 1 => by decide
  | 2 => by decide
  | 3 => by decide
  | 4 => by decide
  | 5 => by decide
  | 6 => by decide
  | 7 => by decide
  | 8 => by decide
  | 9 => by decide
  | 10 => by decide
  | 11 => by decide
  | 12 => by decide
  | 13 => by decide
  | 14 => by decide
  | 15 => by decide
  | 16 => by decide
  | 17 => by decide
  | 18 => by decide
  | 19 => by decide
  | 20 => by decide
  | 21 => by decide
  | 22 => by decide
  | 23 => by decide
  | 24 => by decide
  | 25 => by decide
  | 26 => by decide
  | 27 => by decide
  | 28 => by decide
  | 29 => by decide
  | 30 => by decide
  | 31 => by decide
  | 32 => by decide
  | 33 => by decide
  | 34 => by decide
  | 35 => by decide
  | 36 => by decide
  | 37 => by decide
  | 38 => by decide
  | 39 => by decide
  | 40 => by decide
  | 41 => by decide
  | 42 => by decide
  | 43 => by decide
  | k + 44 => Nat.zero_le _

def h9Y (k : Nat) : Nat := match k with
  | 0 => 0
  | 1 => 0
  | 2 => 0
  | 3 => 1
  | 4 => 2
  | 5 => 2
  | 6 => 1
  | 7 => 1
  | 8 => 8
  | 9 => 30
  | 10 => 8
  | 11 => 0
  | 12 => 3
  | 13 => 2
  | 14 => 2
  | 15 => 2
  | 16 => 2
  | 17 => 4
  | 18 => 3
  | 19 => 3
  | 20 => 2
  | 21 => 3
  | 22 => 5
  | 23 => 6
  | 24 => 1
  | 25 => 1
  | 26 => 1
  | 27 => 5
  | 28 => 7
  | 29 => 6
  | 30 => 7
  | 31 => 7
  | 32 => 3
  | 33 => 2
  | 34 => 2
  | 35 => 2
  | 36 => 6
  | 37 => 6
  | 38 => 1
  | 39 => 6
  | 40 => 6
  | 41 => 1
  | 42 => 4
  | 43 => 4
  | _ => 0

theorem apY : ∀ k, k < 44 → ∀ a, r_api RYs GY (h9Y k) (lw_mY k) (lw_av k a) (F9 k a)
  | 0, _, a => ay_status a
  | 1, _, a => ay_top a
  | 2, _, a => ay_bottom a
  | 3, _, a => ay_tray a
  | 4, _, a => ay_write a
  | 5, _, a => ay_read a
  | 6, _, a => ay_pour a
  | 7, _, a => ay_feed a
  | 8, _, a => ay_town a
  | 9, _, a => ay_law a
  | 10, _, a => ay_plan a
  | 11, _, a => ay_fault a
  | 12, _, a => ay_many a
  | 13, _, a => ay_thing a
  | 14, _, a => ay_making a
  | 15, _, a => ay_awake a
  | 16, _, a => ay_want a
  | 17, _, a => ay_night a
  | 18, _, a => ay_soonest a
  | 19, _, a => ay_bars a
  | 20, _, a => ay_labour a
  | 21, _, a => ay_hands a
  | 22, _, a => ay_day a
  | 23, _, a => ay_days a
  | 24, _, a => ay_step a
  | 25, _, a => ay_stepTime a
  | 26, _, a => ay_firstNight a
  | 27, _, a => ay_price a
  | 28, _, a => ay_kept a
  | 29, _, a => ay_bestKept a
  | 30, _, a => ay_more a
  | 31, _, a => ay_bestMore a
  | 32, _, a => ay_shift a
  | 33, _, a => ay_west a
  | 34, _, a => ay_speed a
  | 35, _, a => ay_way a
  | 36, _, a => ay_judged a
  | 37, _, a => ay_done a
  | 38, _, a => ay_there a
  | 39, _, a => ay_lives a
  | 40, _, a => ay_ill a
  | 41, _, a => ay_lived a
  | 42, _, a => ay_mark a
  | 43, _, a => ay_back a
  | k + 44, h, _ => absurd h (by omega)

theorem h9Y_le : ∀ k, h9Y k ≤ 1000
  | 0 => by decide
  | 1 => by decide
  | 2 => by decide
  | 3 => by decide
  | 4 => by decide
  | 5 => by decide
  | 6 => by decide
  | 7 => by decide
  | 8 => by decide
  | 9 => by decide
  | 10 => by decide
  | 11 => by decide
  | 12 => by decide
  | 13 => by decide
  | 14 => by decide
  | 15 => by decide
  | 16 => by decide
  | 17 => by decide
  | 18 => by decide
  | 19 => by decide
  | 20 => by decide
  | 21 => by decide
  | 22 => by decide
  | 23 => by decide
  | 24 => by decide
  | 25 => by decide
  | 26 => by decide
  | 27 => by decide
  | 28 => by decide
  | 29 => by decide
  | 30 => by decide
  | 31 => by decide
  | 32 => by decide
  | 33 => by decide
  | 34 => by decide
  | 35 => by decide
  | 36 => by decide
  | 37 => by decide
  | 38 => by decide
  | 39 => by decide
  | 40 => by decide
  | 41 => by decide
  | 42 => by decide
  | 43 => by decide
  | k + 44 => Nat.zero_le _

theorem is_if {c : Prop} [Decidable c] {x y : Value × Sg9} (hx : ∃ z, x.1 = .int z) (hy : ∃ z, y.1 = .int z) : ∃ z, (if c then x else y).1 = .int z := by
  split
  · exact hx
  · exact hy
theorem F9_is : ∀ k a σ, lw_isV k (F9 k a σ).1
  | 0, a, σ => ⟨_, rfl⟩
  | 1, a, σ => ⟨_, rfl⟩
  | 2, a, σ => ⟨_, rfl⟩
  | 3, a, σ => ⟨_, rfl⟩
  | 4, a, σ => ⟨_, rfl⟩
  | 5, a, σ => ⟨_, rfl⟩
  | 6, a, σ => ⟨_, rfl⟩
  | 7, a, σ => ⟨_, rfl⟩
  | 8, a, σ => is_if ⟨_, rfl⟩ (is_if ⟨_, rfl⟩ ⟨_, rfl⟩)
  | 9, a, σ => is_if ⟨_, rfl⟩ (is_if ⟨_, rfl⟩ ⟨_, rfl⟩)
  | 10, a, σ => is_if ⟨_, rfl⟩ (is_if ⟨_, rfl⟩ ⟨_, rfl⟩)
  | 11, a, σ => ⟨_, rfl⟩
  | 12, a, σ => ⟨_, rfl⟩
  | 13, a, σ => ⟨_, rfl⟩
  | 14, a, σ => ⟨_, rfl⟩
  | 15, a, σ => ⟨_, rfl⟩
  | 16, a, σ => ⟨_, rfl⟩
  | 17, a, σ => ⟨_, rfl⟩
  | 18, a, σ => ⟨_, rfl⟩
  | 19, a, σ => ⟨_, rfl⟩
  | 20, a, σ => ⟨_, rfl⟩
  | 21, a, σ => ⟨_, rfl⟩
  | 22, a, σ => ⟨_, rfl⟩
  | 23, a, σ => ⟨_, rfl⟩
  | 24, a, σ => ⟨_, rfl⟩
  | 25, a, σ => ⟨_, rfl⟩
  | 26, a, σ => ⟨_, rfl⟩
  | 27, a, σ => ⟨_, rfl⟩
  | 28, a, σ => ⟨_, rfl⟩
  | 29, a, σ => ⟨_, rfl⟩
  | 30, a, σ => ⟨_, rfl⟩
  | 31, a, σ => ⟨_, rfl⟩
  | 32, a, σ => ⟨_, rfl⟩
  | 33, a, σ => ⟨_, rfl⟩
  | 34, a, σ => ⟨_, rfl⟩
  | 35, a, σ => ⟨_, rfl⟩
  | 36, a, σ => ⟨_, rfl⟩
  | 37, a, σ => ⟨_, rfl⟩
  | 38, a, σ => ⟨_, rfl⟩
  | 39, a, σ => ⟨_, rfl⟩
  | 40, a, σ => ⟨_, rfl⟩
  | 41, a, σ => ⟨_, rfl⟩
  | 42, a, σ => is_if ⟨_, rfl⟩ ⟨_, rfl⟩
  | 43, a, σ => is_if ⟨_, rfl⟩ ⟨_, rfl⟩
  | k + 44, a, σ => ⟨_, rfl⟩

def tr0 : Nat → Tr := fun _ => (0, -1, fun _ => 0)
def s09 : Sg9 := (nI 0, tr0, (0, fun _ => 0), (-1, -1), (0, 1), (0, fun _ => 0, fun _ => 0), (false, fun _ => 0), (false, fun _ => 0), (false, fun _ => 0), (0, fun _ => fun _ => 0, fun _ _ => [], fun _ => 0))
def tw0 (i : Nat) : Nat := if i = 4 then 3 else 83 + 28 * i
def lw0 (i : Nat) : Nat := if i = 4 then 22 else if i = 5 then 31 else 102 + 28 * i
def pl0 (i : Nat) : Nat := if i = 4 then 26 else if i = 5 then 35 else 106 + 28 * i
theorem gd0 : Gd (fun _ => 0) (fun _ => []) := ⟨x09_wf, fun k hk h1 => absurd h1 (show ¬ (0 : Nat) = 1 by decide), fun j hj => absurd hj (Nat.not_lt_zero _), Nat.zero_le _, fun i j hi => absurd hi (Nat.not_lt_zero _)⟩
theorem n4_c {P : Nat → Prop} (h0 : P 0) (h1 : P 1) (h2 : P 2) (h3 : P 3) : ∀ t, t < 4 → P t := fun t ht => by
  rcases (show t = 0 ∨ t = 1 ∨ t = 2 ∨ t = 3 by omega) with rfl | rfl | rfl | rfl
  · exact h0
  · exact h1
  · exact h2
  · exact h3
theorem m1_k {k : Nat} (h : (k : Int) < (-1 : Int32).toInt) : False := by
  have e : (-1 : Int32).toInt = -1 := rfl
  omega
theorem xt0 : X_tr tr0 tc_X11 := n4_c ⟨by decide +kernel, by decide +kernel, by decide +kernel, by decide, fun k h => (m1_k h).elim⟩ ⟨by decide +kernel, by decide +kernel, by decide +kernel, by decide, fun k h => (m1_k h).elim⟩ ⟨by decide +kernel, by decide +kernel, by decide +kernel, by decide, fun k h => (m1_k h).elim⟩ ⟨by decide +kernel, by decide +kernel, by decide +kernel, by decide, fun k h => (m1_k h).elim⟩
theorem yt0 : Y_tr tr0 tc_X12 := n4_c ⟨by decide +kernel, by decide +kernel, by decide, fun k h => (m1_k h).elim⟩ ⟨by decide +kernel, by decide +kernel, by decide, fun k h => (m1_k h).elim⟩ ⟨by decide +kernel, by decide +kernel, by decide, fun k h => (m1_k h).elim⟩ ⟨by decide +kernel, by decide +kernel, by decide, fun k h => (m1_k h).elim⟩
theorem xl0 : X_lev 83 102 106 (fun _ => 0) (fun _ => []) tc_X11 := ⟨⟨⟨by decide +kernel, by decide +kernel, by decide +kernel, by decide +kernel⟩, ⟨by decide +kernel, by decide +kernel, by decide +kernel⟩, fun m hm => absurd hm (Nat.not_lt_zero _), fun p hp => absurd hp (Nat.not_lt_zero _), fun w hw => absurd hw (Nat.not_lt_zero _), fun w hw => absurd hw (Nat.not_lt_zero _), by decide +kernel⟩, ⟨⟨by decide +kernel, by decide +kernel, by decide +kernel⟩, fun k hk => absurd hk (Nat.not_lt_zero _), fun k hk => absurd hk (Nat.not_lt_zero _), fun k hk => absurd hk (Nat.not_lt_zero _)⟩, by decide +kernel, fun k hk h1 => absurd h1 (show ¬ (0 : Nat) = 1 by decide), by decide +kernel, by decide +kernel, fun j hj => absurd hj (Nat.not_lt_zero _)⟩
theorem le4_c {P : Nat → Prop} (h0 : P 0) (h1 : P 1) (h2 : P 2) (h3 : P 3) (h4 : P 4) : ∀ t, t ≤ 4 → P t := fun t ht => by
  rcases (show t = 0 ∨ t = 1 ∨ t = 2 ∨ t = 3 ∨ t = 4 by omega) with rfl | rfl | rfl | rfl | rfl
  · exact h0
  · exact h1
  · exact h2
  · exact h3
  · exact h4
theorem xs0_a : ∀ i, i ≤ 4 → isTown (tw0 i) ∧ tc_X11.2.2 (tw0 i) 19 = some (lw0 i) ∧ tc_X11.2.2 (tw0 i) 20 = some (pl0 i) ∧ X_lm (tw0 i) tc_X11 := le4_c ⟨by unfold isTown; decide, by decide +kernel, by decide +kernel, by decide +kernel, by decide +kernel, by decide +kernel⟩ ⟨by unfold isTown; decide, by decide +kernel, by decide +kernel, by decide +kernel, by decide +kernel, by decide +kernel⟩ ⟨by unfold isTown; decide, by decide +kernel, by decide +kernel, by decide +kernel, by decide +kernel, by decide +kernel⟩ ⟨by unfold isTown; decide, by decide +kernel, by decide +kernel, by decide +kernel, by decide +kernel, by decide +kernel⟩ ⟨by unfold isTown; decide, by decide +kernel, by decide +kernel, by decide +kernel, by decide +kernel, by decide +kernel⟩
theorem xs0_b : ∀ i, i ≤ 5 → isLaw (lw0 i) ∧ isPlan (pl0 i) := by
  unfold isLaw isPlan
  decide
theorem xs0_c1 : ∀ i, i ≤ 4 → ∀ j, j ≤ 4 → tw0 i = tw0 j → i = j := by decide
theorem xs0_c2 : ∀ i, i ≤ 5 → ∀ j, j ≤ 5 → lw0 i = lw0 j → i = j := by decide
theorem xs0_c3 : ∀ i, i ≤ 5 → ∀ j, j ≤ 5 → pl0 i = pl0 j → i = j := by decide
theorem xs0 : X_st 0 tw0 lw0 pl0 (fun _ => fun _ => 0) (fun _ _ => []) tc_X11 := ⟨⟨by decide +kernel, by decide⟩, xs0_a, xs0_b, ⟨fun i j hi hj => xs0_c1 i hi j hj, fun i j hi hj => xs0_c2 i hi j hj, fun i j hi hj => xs0_c3 i hi j hj⟩, ⟨fun i hi => n4_c (P := fun i => tc_X11.2.2 2 i = some (tw0 i)) (by decide +kernel) (by decide +kernel) (by decide +kernel) (by decide +kernel) i (by omega), by decide +kernel, by decide +kernel, by decide +kernel⟩, fun i hi => by
  have e : i = 0 := by omega
  subst e
  exact xl0⟩
theorem rx0 : RXs tc_X11 s09 := ⟨by decide +kernel, xt0, ⟨by decide +kernel, Nat.zero_le _, fun k hk => absurd hk (Nat.not_lt_zero _)⟩, fun k hk => absurd hk (Nat.not_lt_zero _), ⟨by decide +kernel, by decide +kernel⟩, ⟨by decide +kernel, by decide +kernel⟩, ⟨by decide +kernel, Nat.zero_le _, fun k hk => absurd hk (Nat.not_lt_zero _)⟩, ⟨by decide +kernel, fun z => absurd z (by decide)⟩, ⟨by decide +kernel, fun z => absurd z (by decide)⟩, ⟨by decide +kernel, fun z => absurd z (by decide)⟩, (show ∀ k, k < 28 → tc_X11.2.1 42 k = nJ (cd 27 (RW.getD k [])) by decide +kernel), (show tc_X11.1 59 0 = nI 0 by decide +kernel), ⟨tw0, lw0, pl0, xs0⟩, fun i hi => gd0⟩
theorem yz0 : ∀ k, tc_X12.1 5 k = nI 0 := fun k => rfl
theorem ry0 : RYs tc_X12 s09 := ⟨by decide +kernel, yt0, ⟨by decide +kernel, Nat.zero_le _, fun k hk => absurd hk (Nat.not_lt_zero _)⟩, ⟨by decide +kernel, by decide +kernel⟩, ⟨by decide +kernel, by decide +kernel⟩, ⟨by decide +kernel, Nat.zero_le _, fun k hk => absurd hk (Nat.not_lt_zero _)⟩, ⟨by decide +kernel, fun z => absurd z (by decide)⟩, ⟨by decide +kernel, fun z => absurd z (by decide)⟩, ⟨by decide +kernel, fun z => absurd z (by decide)⟩, ⟨⟨by decide +kernel, by decide⟩, ⟨fun k _ => yz0 _, fun j hj => absurd hj (Nat.not_lt_zero _), fun k hk => absurd hk (Nat.not_lt_zero _), fun k hk => absurd hk (Nat.not_lt_zero _), fun k hk => absurd hk (Nat.not_lt_zero _)⟩, fun i hi => absurd hi (Nat.not_lt_zero _), fun j _ _ => yz0 _⟩, fun i hi => gd0⟩
