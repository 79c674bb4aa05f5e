-- READING: A TOWN THAT WAS TOLD IS WELL FORMED
theorem sRw_w {T : Tx} {W : Nat → List Nat} {b n had e : Nat} : ∀ (f set : Nat) (s : Ps), set < 2 ^ n → set &&& had = 0 → (sRw T W b n had e f set s).1 < 2 ^ n ∧ (sRw T W b n had e f set s).1 &&& had = 0
  | 0, set, s, h, g => ⟨h, g⟩
  | f + 1, set, s, h, g => by
    rw [sRw]
    split
    · exact ⟨Nat.two_pow_pos n, Nat.zero_and _⟩
    · rename_i h1
      have ok := sOld_ok (Classical.byContradiction h1)
      have hk := fN_le W (tL T s.1) b n
      have hp : 2 ^ (fN W (tL T s.1) b n - 1) < 2 ^ n := Nat.pow_lt_pow_right (by decide) (by have := ok.2.2.2; omega)
      split
      · exact ⟨Nat.two_pow_pos n, Nat.zero_and _⟩
      · rename_i h2
        have h3 : had.testBit (fN W (tL T s.1) b n - 1) = false := by
          rw [Nat.testBit_or, Bool.or_eq_true] at h2
          cases h4 : had.testBit (fN W (tL T s.1) b n - 1)
          · rfl
          · exact absurd (Or.inr h4) h2
        have g2 : (set ||| 2 ^ (fN W (tL T s.1) b n - 1)) &&& had = 0 := by
          apply Nat.eq_of_testBit_eq
          intro i
          have gi := congrArg (fun q => q.testBit i) g
          rw [Nat.testBit_and, Nat.zero_testBit] at gi
          rw [Nat.testBit_and, Nat.testBit_or, Nat.testBit_two_pow, Nat.zero_testBit]
          by_cases e1 : fN W (tL T s.1) b n - 1 = i
          · rw [← e1, h3, Bool.and_false]
          · rw [decide_eq_false e1, Bool.or_false]
            exact gi
        split
        · exact sRw_w f _ _ (Nat.or_lt_two_pow h hp) g2
        · exact ⟨Nat.or_lt_two_pow h hp, g2⟩
theorem sOpt_r {T : Tx} {W : Nat → List Nat} {n had w : Nat} {s : Ps} : (sOpt T W n had w s).1 < 2 ^ n ∧ (sOpt T W n had w s).1 &&& had = 0 := by
  unfold sOpt
  split
  · exact sRw_w _ _ _ (Nat.two_pow_pos n) (Nat.zero_and _)
  · exact ⟨Nat.two_pow_pos n, Nat.zero_and _⟩
theorem sNew_lt {T : Tx} {c lim : Nat} {x : St9} {s : Ps} (h : (sNew T c lim x s).2 = 0) (hle : x.1 c ≤ lim) : x.1 c < lim := by
  unfold sNew at h
  split at h
  · rename_i h1
    exact absurd h h1
  · split at h
    · exact absurd h (fun z => Nat.noConfusion z)
    · omega
theorem thX_wf {T : Tx} {x : St9} {s : Ps} (wf : Wf x.1) (h : (thS T x s).2 = 0) : Wf (thX T x s).1 := by
  have h2 : (sNew T 0 8 x s).2 = 0 := by
    unfold thS at h
    rwa [sIf_2, sIf_2] at h
  have hb := wf.1
  have hlt := sNew_lt h2 hb.1
  obtain ⟨c0, c5, c13, cz⟩ := thX_c (T := T) (s := s) wf hlt
  have c21 : ∀ i, i < 8 → (thX T x s).1 (21 + i) = if i = x.1 0 then 0 else x.1 (21 + i) := fun i hi => by
    unfold thX
    dsimp only
    rw [if_neg (by omega), if_neg (by omega), if_neg (by omega)]
    by_cases e : i = x.1 0
    · rw [if_pos (by omega), if_pos e]
    · rw [if_neg (by omega), if_neg e]
  have z1 := cz 1 (by omega) (by omega)
  have z2 := cz 2 (by omega) (by omega)
  have z3 := cz 3 (by omega) (by omega)
  have z4 := cz 4 (by omega) (by omega)
  have hpp : 2 ^ x.1 0 ≤ 2 ^ (x.1 0 + 1) := Nat.pow_le_pow_right (by decide) (by omega)
  have b1 := bIf_le T 129 (sNew T 0 8 x s)
  have b2 := bIf_le T 130 (sIf T 129 (sNew T 0 8 x s))
  refine ⟨by rw [c0, z1, z2, z3, z4]; omega, fun i hi => ?_, fun i h1 h2 => ?_, fun i h1 h2 => ?_, fun m hm => ?_, fun p hp => ?_, fun w hw => ?_⟩
  · have q := wf.2.1 i hi
    rw [c5 i hi, c13 i hi, c21 i hi, cz (131 + i) (by omega) (by omega)]
    refine ⟨?_, ?_, ?_, q.2.2.2⟩ <;> split <;> omega
  · rw [c0] at h1
    have q := wf.2.2.1 i (by omega) h2
    rw [c5 i h2, c13 i h2, c21 i h2, if_neg (by omega), if_neg (by omega), if_neg (by omega)]
    exact q
  · rw [z3] at h1
    rw [cz (131 + i) (by omega) (by omega)]
    exact wf.2.2.2.1 i h1 h2
  · rw [z1] at hm
    have q := wf.2.2.2.2.1 m hm
    rw [c0, cz (29 + m) (by omega) (by omega), cz (41 + m) (by omega) (by omega), cz (53 + m) (by omega) (by omega), cz (65 + m) (by omega) (by omega), cz (77 + m) (by omega) (by omega)]
    exact ⟨by omega, q.2.1, q.2.2.1, by omega, by omega, q.2.2.2.2.2⟩
  · rw [z2] at hp
    rw [cz (89 + p) (by omega) (by omega), cz (95 + p) (by omega) (by omega), cz (101 + p) (by omega) (by omega)]
    exact wf.2.2.2.2.2.1 p hp
  · rw [z3] at hw
    have q := wf.2.2.2.2.2.2 w hw
    rw [c0, cz (107 + w) (by omega) (by omega), cz (115 + w) (by omega) (by omega), cz (123 + w) (by omega) (by omega)]
    exact ⟨by omega, q.2⟩
theorem mkX_wf {T : Tx} {x : St9} {s : Ps} (wf : Wf x.1) (h : (mkS T x s).2 = 0) : Wf (mkX T x s).1 := by
  have h7 : (mk7 T x s).2.2 = 0 := sOpt_0 h
  have h6 : (mk6 T x s).2 = 0 := sOpt_0 h7
  have o6 := sCount_ok9 h6
  have h5 : (mk5 T x s).2 = 0 := o6.2.2
  have h4 : (mk4 T x s).2 = 0 := sMust_0 h5
  have o4 := sCount_ok9 h4
  have h3 : (mk3 T x s).2 = 0 := o4.2.2
  have h2 : (mk2 T x s).2 = 0 := sMust_0 h3
  have o2 := sOld_ok (sNext_0 h2)
  have hf := fN_le x.2 (tL T (mk1 T x s).1) 0 (x.1 0)
  have hb := wf.1
  have hlt := sNew_lt (sMust_0 o2.2.1) hb.2.1
  obtain ⟨c1, ⟨g1, g2, g3, g4, g5⟩, cz⟩ := mkX_c (T := T) (s := s) hlt
  have cy : ∀ j, ¬ j = 1 → (j < 29 ∨ 89 ≤ j) → (mkX T x s).1 j = x.1 j := fun j h1 h2 => cz j h1 (by omega) (by omega) (by omega) (by omega) (by omega)
  have r7 := sOpt_r (T := T) (W := x.2) (n := x.1 0) (had := 0) (w := 135) (s := mk6 T x s)
  have r8 := sOpt_r (T := T) (W := x.2) (n := x.1 0) (had := (mk7 T x s).1) (w := 136) (s := (mk7 T x s).2)
  rw [Nat.and_comm] at r8
  have z0 := cy 0 (by omega) (by omega)
  have z2 := cy 2 (by omega) (by omega)
  have z3 := cy 3 (by omega) (by omega)
  have z4 := cy 4 (by omega) (by omega)
  refine ⟨by rw [c1, z0, z2, z3, z4]; omega, fun i hi => ?_, fun i h1 h2 => ?_, fun i h1 h2 => ?_, fun m hm => ?_, fun p hp => ?_, fun w hw => ?_⟩
  · rw [cy (5 + i) (by omega) (by omega), cy (13 + i) (by omega) (by omega), cy (21 + i) (by omega) (by omega), cy (131 + i) (by omega) (by omega)]
    exact wf.2.1 i hi
  · rw [z0] at h1
    rw [cy (5 + i) (by omega) (by omega), cy (13 + i) (by omega) (by omega), cy (21 + i) (by omega) (by omega)]
    exact wf.2.2.1 i h1 h2
  · rw [z3] at h1
    rw [cy (131 + i) (by omega) (by omega)]
    exact wf.2.2.2.1 i h1 h2
  · rw [c1] at hm
    rw [z0]
    by_cases e : m = x.1 1
    · subst e
      rw [g1, g2, g3, g4, g5]
      exact ⟨by omega, o4.2.1, o6.2.1, r7.1, r8.1, r8.2⟩
    · rw [cz (29 + m) (by omega) (by omega) (by omega) (by omega) (by omega) (by omega), cz (41 + m) (by omega) (by omega) (by omega) (by omega) (by omega) (by omega), cz (53 + m) (by omega) (by omega) (by omega) (by omega) (by omega) (by omega), cz (65 + m) (by omega) (by omega) (by omega) (by omega) (by omega) (by omega), cz (77 + m) (by omega) (by omega) (by omega) (by omega) (by omega) (by omega)]
      exact wf.2.2.2.2.1 m (by omega)
  · rw [z2] at hp
    rw [cy (89 + p) (by omega) (by omega), cy (95 + p) (by omega) (by omega), cy (101 + p) (by omega) (by omega)]
    exact wf.2.2.2.2.2.1 p hp
  · rw [z3] at hw
    rw [z0, cy (107 + w) (by omega) (by omega), cy (115 + w) (by omega) (by omega), cy (123 + w) (by omega) (by omega)]
    exact wf.2.2.2.2.2.2 w hw
theorem peX_wf {T : Tx} {x : St9} {s : Ps} (wf : Wf x.1) (h : (peS T x s).2 = 0) : Wf (peX T x s).1 := by
  have hI : (pe4 T x s).2 = 0 ∧ peI T x s ≤ 16 := by
    unfold peS at h
    unfold peI
    by_cases c : (pe4 T x s).2 = 0 ∧ tK T (pe4 T x s).1 = 140
    · rw [if_pos c] at h
      rw [if_pos c]
      exact ⟨c.1, (sCount_ok9 h).2.1.2⟩
    · rw [if_neg c] at h
      rw [if_neg c]
      exact ⟨h, by omega⟩
  have o4 := sCount_ok9 hI.1
  have o2 := sCount_ok9 (sMust_0 o4.2.2)
  have hb := wf.1
  have hlt := sNew_lt (sMust_0 o2.2.2) hb.2.2.1
  obtain ⟨c2, ⟨g1, g2, g3⟩, cz⟩ := peX_c (T := T) (s := s) hlt
  have cy : ∀ j, ¬ j = 2 → (j < 89 ∨ 107 ≤ j) → (peX T x s).1 j = x.1 j := fun j h1 h2 => cz j h1 (by omega) (by omega) (by omega)
  have z0 := cy 0 (by omega) (by omega)
  have z1 := cy 1 (by omega) (by omega)
  have z3 := cy 3 (by omega) (by omega)
  have z4 := cy 4 (by omega) (by omega)
  refine ⟨by rw [c2, z0, z1, z3, z4]; omega, fun i hi => ?_, fun i h1 h2 => ?_, fun i h1 h2 => ?_, fun m hm => ?_, fun p hp => ?_, fun w hw => ?_⟩
  · rw [cy (5 + i) (by omega) (by omega), cy (13 + i) (by omega) (by omega), cy (21 + i) (by omega) (by omega), cy (131 + i) (by omega) (by omega)]
    exact wf.2.1 i hi
  · rw [z0] at h1
    rw [cy (5 + i) (by omega) (by omega), cy (13 + i) (by omega) (by omega), cy (21 + i) (by omega) (by omega)]
    exact wf.2.2.1 i h1 h2
  · rw [z3] at h1
    rw [cy (131 + i) (by omega) (by omega)]
    exact wf.2.2.2.1 i h1 h2
  · rw [z1] at hm
    rw [z0, cy (29 + m) (by omega) (by omega), cy (41 + m) (by omega) (by omega), cy (53 + m) (by omega) (by omega), cy (65 + m) (by omega) (by omega), cy (77 + m) (by omega) (by omega)]
    exact wf.2.2.2.2.1 m hm
  · rw [c2] at hp
    by_cases e : p = x.1 2
    · subst e
      rw [g1, g2, g3]
      exact ⟨o2.2.1.2, o4.2.1.2, hI.2⟩
    · rw [cz (89 + p) (by omega) (by omega) (by omega) (by omega), cz (95 + p) (by omega) (by omega) (by omega) (by omega), cz (101 + p) (by omega) (by omega) (by omega) (by omega)]
      exact wf.2.2.2.2.2.1 p (by omega)
  · rw [z3] at hw
    rw [z0, cy (107 + w) (by omega) (by omega), cy (115 + w) (by omega) (by omega), cy (123 + w) (by omega) (by omega)]
    exact wf.2.2.2.2.2.2 w hw
theorem waX_wf {T : Tx} {x : St9} {s : Ps} (wf : Wf x.1) (h : (waS T x s).2 = 0) : Wf (waX T x s).1 := by
  have h5 : (wa5 T x s).2 = 0 := by
    unfold waS at h
    rwa [sIf_2] at h
  have o5 := sCount_ok9 h5
  have o3 := sCount_ok9 (sMust_0 o5.2.2)
  have h1 : (wa1 T x s).2 = 0 := sMust_0 o3.2.2
  have o1 := sOld_ok (sNext_0 h1)
  have hf := fN_le x.2 (tL T (wa0 T x s).1) 0 (x.1 0)
  have hb := wf.1
  have hlt : x.1 3 < 8 := by
    have h0 := sNext_0 o1.2.1
    by_cases e : x.1 3 = 8
    · rw [if_pos e] at h0
      unfold sFail at h0
      split at h0
      · exact absurd h0 (fun z => Nat.noConfusion z)
      · rename_i h9
        exact absurd h0 h9
    · omega
  obtain ⟨c3, ⟨g1, g2, g3, g4⟩, cz⟩ := waX_c (T := T) (s := s) hlt
  have cy : ∀ j, ¬ j = 3 → j < 107 → (waX T x s).1 j = x.1 j := fun j h1 h2 => cz j h1 (by omega) (by omega) (by omega) (by omega)
  have b1 := bIf_le T 144 (wa5 T x s)
  have z0 := cy 0 (by omega) (by omega)
  have z1 := cy 1 (by omega) (by omega)
  have z2 := cy 2 (by omega) (by omega)
  have z4 := cy 4 (by omega) (by omega)
  refine ⟨by rw [c3, z0, z1, z2, z4]; omega, fun i hi => ?_, fun i h1 h2 => ?_, fun i h1 h2 => ?_, fun m hm => ?_, fun p hp => ?_, fun w hw => ?_⟩
  · have q := wf.2.1 i hi
    rw [cy (5 + i) (by omega) (by omega), cy (13 + i) (by omega) (by omega), cy (21 + i) (by omega) (by omega)]
    refine ⟨q.1, q.2.1, q.2.2.1, ?_⟩
    by_cases e : i = x.1 3
    · subst e
      rw [g4]
      exact b1
    · rw [cz (131 + i) (by omega) (by omega) (by omega) (by omega) (by omega)]
      exact q.2.2.2
  · rw [z0] at h1
    rw [cy (5 + i) (by omega) (by omega), cy (13 + i) (by omega) (by omega), cy (21 + i) (by omega) (by omega)]
    exact wf.2.2.1 i h1 h2
  · rw [c3] at h1
    rw [cz (131 + i) (by omega) (by omega) (by omega) (by omega) (by omega)]
    exact wf.2.2.2.1 i (by omega) h2
  · rw [z1] at hm
    rw [z0, cy (29 + m) (by omega) (by omega), cy (41 + m) (by omega) (by omega), cy (53 + m) (by omega) (by omega), cy (65 + m) (by omega) (by omega), cy (77 + m) (by omega) (by omega)]
    exact wf.2.2.2.2.1 m hm
  · rw [z2] at hp
    rw [cy (89 + p) (by omega) (by omega), cy (95 + p) (by omega) (by omega), cy (101 + p) (by omega) (by omega)]
    exact wf.2.2.2.2.2.1 p hp
  · rw [c3] at hw
    rw [z0]
    by_cases e : w = x.1 3
    · subst e
      rw [g1, g2, g3]
      exact ⟨by have := o1.2.2.2; omega, o3.2.1.2, o5.2.1.1, o5.2.1.2⟩
    · rw [cz (107 + w) (by omega) (by omega) (by omega) (by omega) (by omega), cz (115 + w) (by omega) (by omega) (by omega) (by omega) (by omega), cz (123 + w) (by omega) (by omega) (by omega) (by omega) (by omega)]
      exact wf.2.2.2.2.2.2 w (by omega)
theorem prX_wf {T : Tx} {x : St9} {s : Ps} (wf : Wf x.1) (h0 : s.2 = 0) (h : (prS T x s).2 = 0) : Wf (prX T x s).1 := by
  have h1 := (prS_adv h).2.1
  have h2 := paS_w h0 h1
  unfold paS at h1
  unfold prX
  by_cases e1 : tK T s.1 = 128
  · rw [if_pos e1] at h1 ⊢
    exact thX_wf wf h1
  · rw [if_neg e1] at h1 ⊢
    by_cases e2 : tK T s.1 = 131
    · rw [if_pos e2] at h1 ⊢
      exact mkX_wf wf h1
    · rw [if_neg e2] at h1 ⊢
      by_cases e3 : tK T s.1 = 137
      · rw [if_pos e3] at h1 ⊢
        exact peX_wf wf h1
      · rw [if_neg e3] at h1 ⊢
        rw [if_pos (by omega)] at h1
        exact waX_wf wf h1
theorem x09_wf : Wf x09.1 := ⟨by decide, fun i _ => ⟨Nat.zero_le _, Nat.zero_le _, Nat.zero_le _, Nat.zero_le _⟩, fun i _ _ => ⟨rfl, rfl, rfl⟩, fun i _ _ => rfl, fun m hm => absurd hm (Nat.not_lt_zero _), fun p hp => absurd hp (Nat.not_lt_zero _), fun w hw => absurd hw (Nat.not_lt_zero _)⟩
theorem twP_wf {T : Tx} : ∀ (f : Nat) (x : St9) (s : Ps), Wf x.1 → s.2 = 0 → Wf (twP T f x s).1.1
  | 0, x, s, h, _ => h
  | f + 1, x, s, h, h0 => by
    rw [twP]
    split
    · exact h
    · split
      · exact h
      · rename_i h2
        have h3 : (prS T x s).2 = 0 := Classical.byContradiction h2
        exact twP_wf f _ _ (prX_wf h h0 h3) h3
theorem twR_wf (T : Tx) : Wf (twR T).1.1 := twP_wf 801 x09 (0, 0) x09_wf rfl
