-- DEEDS: THE MATHEMATICS
def anB (p : Nat → Bool) : Nat → Bool
  | 0 => false
  | n + 1 => anB p n || p n
theorem anB_f {p : Nat → Bool} : ∀ {n : Nat}, (∀ i, i < n → p i = false) → anB p n = false
  | 0, _ => rfl
  | n + 1, h => by rw [anB, anB_f (fun i hi => h i (by omega)), h n (by omega)]; rfl
theorem anB_t {p : Nat → Bool} {i : Nat} (h : p i = true) : ∀ {n : Nat}, i < n → anB p n = true
  | 0, q => by omega
  | n + 1, q => by
    rw [anB]
    by_cases e : i = n
    · subst e
      rw [h, Bool.or_true]
    · rw [anB_t h (show i < n by omega), Bool.true_or]
/-- when a job ends -/
def jE (d : Td) (j : Nat) : Nat := d (522 + 5 * j) + d (41 + d (523 + 5 * j))
def jAp (d : Td) (j p : Nat) : Bool := (d (524 + 5 * j)).testBit p && decide (¬ r_dif (spn (d (522 + 5 * j)) (d (41 + d (523 + 5 * j)))) (bt (awB (d (89 + p)) (d (95 + p))) 24) = 0)
def jBi (d : Td) (j i : Nat) : Bool := decide (d (521 + 5 * i) = 0) && (decide (¬ d (524 + 5 * i) &&& d (524 + 5 * j) = 0) && decide (¬ spn (d (522 + 5 * i)) (d (41 + d (523 + 5 * i))) &&& spn (d (522 + 5 * j)) (d (41 + d (523 + 5 * j))) = 0))
/-- why a making can't be -/
def jM (d : Td) (j : Nat) : Nat := if ¬ pop8 (d (524 + 5 * j)) = d (53 + d (523 + 5 * j)) then 1 else if anB (jAp d j) (d 2) = true then 2 else if anB (jBi d j) j = true then 3 else if 24 < jE d j then 4 else 0
def jW (d : Td) (j : Nat) : Nat := if d (521 + 5 * j) = 0 then jM d j else jK d j
theorem jM_le (d : Td) (j : Nat) : jM d j ≤ 4 := by
  unfold jM
  repeat' split
  all_goals omega
theorem jK_le (d : Td) (j : Nat) : jK d j ≤ 5 := by
  unfold jK
  repeat' split
  all_goals omega
theorem jW_le (d : Td) (j : Nat) : jW d j ≤ 5 := by
  have h1 := jM_le d j
  have h2 := jK_le d j
  unfold jW
  split <;> omega
theorem jW_end {d : Td} {j : Nat} (h : jW d j = 0) (hk : d (521 + 5 * j) = 0) : jE d j ≤ 24 := by
  unfold jW at h
  rw [if_pos hk] at h
  unfold jM at h
  split at h
  · omega
  · split at h
    · omega
    · split at h
      · omega
      · split at h
        · omega
        · omega
theorem jAp_t {d : Td} {j p i : Nat} (hb : (d (524 + 5 * j)).testBit p = true) (hi : i < 24) (h1 : d (522 + 5 * j) ≤ i) (h2 : i < jE d j) (ha : aw (d (89 + p)) (d (95 + p)) i = false) : jAp d j p = true := by
  unfold jAp
  rw [hb, Bool.true_and, decide_eq_true_iff]
  intro z
  have := spn_aw.mp z i hi h1 h2
  rw [this] at ha
  cases ha
theorem jAp_f {d : Td} {j p : Nat} (h : (d (524 + 5 * j)).testBit p = true → ∀ i, i < 24 → d (522 + 5 * j) ≤ i → i < jE d j → aw (d (89 + p)) (d (95 + p)) i = true) : jAp d j p = false := by
  unfold jAp
  cases hb : (d (524 + 5 * j)).testBit p
  · rfl
  · rw [Bool.true_and, decide_eq_false_iff_not]
    intro z
    exact z (spn_aw.mpr (h hb))
theorem jBi_iff {d : Td} {j i : Nat} (ha : d (522 + 5 * i) ≤ 23) (hb : d (522 + 5 * j) ≤ 23) (h1 : 1 ≤ d (41 + d (523 + 5 * i))) (g1 : 1 ≤ d (41 + d (523 + 5 * j))) (hk : d (521 + 5 * i) = 0) : jBi d j i = true ↔ (¬ d (524 + 5 * i) &&& d (524 + 5 * j) = 0) ∧ d (522 + 5 * i) < jE d j ∧ d (522 + 5 * j) < jE d i := by
  unfold jBi jE
  rw [Bool.and_eq_true, Bool.and_eq_true, decide_eq_true_iff, decide_eq_true_iff, decide_eq_true_iff]
  have hs := spn_and ha hb h1 g1
  constructor
  · rintro ⟨_, q1, q2⟩
    exact ⟨q1, (hs.mp q2)⟩
  · rintro ⟨q1, q2⟩
    exact ⟨hk, q1, hs.mpr q2⟩
theorem jBi_k {d : Td} {j i : Nat} (hk : ¬ d (521 + 5 * i) = 0) : jBi d j i = false := by
  unfold jBi
  rw [decide_eq_false hk, Bool.false_and]
abbrev Jt : Type := Nat × (Nat → Bool) × Nat × Nat
/-- a job for which a thing may be missing -/
def jL (q : Jt) (j needs : Nat) : Jt := if r_dif needs q.1 = 0 then q else (q.1, (fun i => if i = j then true else q.2.1 i), (if q.2.2.1 = 0 then (j + 1, tz (r_dif needs q.1)) else q.2.2))
def jB1 (d : Td) (t : Nat) (q : Jt) (j : Nat) : Jt := if d (521 + 5 * j) = 0 ∧ d (522 + 5 * j) = t ∧ q.2.1 j = false then (if r_dif (sNd d (d (523 + 5 * j))) q.1 = 0 then (r_dif q.1 (d (65 + d (523 + 5 * j))), q.2) else jL q j (sNd d (d (523 + 5 * j)))) else q
def jBn (d : Td) (t : Nat) (q : Jt) : Nat → Jt
  | 0 => q
  | j + 1 => jB1 d t (jBn d t q j) j
def jG (d : Td) (P : Nat → Bool) (e : Nat) : Nat → Nat
  | 0 => 0
  | j + 1 => if P j = true ∧ jE d j = e then jG d P e j ||| 2 ^ d (29 + d (523 + 5 * j)) else jG d P e j
def jGo (d : Td) (L : Nat → Bool) (j : Nat) : Bool := decide (d (521 + 5 * j) = 0) && !L j
def jT1 (d : Td) (t : Nat) (x : Jt × Nat × Nat) : Jt × Nat × Nat := (jBn d t ((wT d t (x.1.1 ||| jG d (jGo d x.1.2.1) t (d 4))).1, x.1.2) (d 4), x.2.1 + (wT d t (x.1.1 ||| jG d (jGo d x.1.2.1) t (d 4))).2.1, x.2.2 + (wT d t (x.1.1 ||| jG d (jGo d x.1.2.1) t (d 4))).2.2)
def jT (d : Td) (x : Jt × Nat × Nat) : Nat → Jt × Nat × Nat
  | 0 => x
  | t + 1 => jT1 d t (jT d x t)
def jN (d : Td) (q : Jt) : Nat → Jt
  | 0 => q
  | j + 1 => if (¬ d (521 + 5 * j) = 0) ∧ (jN d q j).2.1 j = false then jL (jN d q j) j (2 ^ d (523 + 5 * j)) else jN d q j
def jTo (d : Td) (L : Nat → Bool) (kd : Nat) : Nat → Nat
  | 0 => 0
  | j + 1 => if d (521 + 5 * j) = kd ∧ L j = false then d (523 + 5 * j) + 1 else jTo d L kd j
def jL0 (d : Td) (ill j : Nat) : Bool := decide (¬ jW d j = 0) || decide (¬ d (524 + 5 * j) &&& ill = 0)
def jX0 (d : Td) (s ill : Nat) : Jt × Nat × Nat := ((s, jL0 d ill, 0, 0), 0, 0)
def jX (d : Td) (s ill : Nat) : Jt × Nat × Nat := jT d (jX0 d s ill) 25
def jQ (d : Td) (s ill : Nat) : Jt := jN d (jX d s ill).1 (d 4)
def jNt (d : Td) (y : Nat) (q : Jt) : Nat := stA d 0 q.1 (y % 7) (jTo d q.2.1 1 (d 4)) (jTo d q.2.1 2 (d 4)) (jTo d q.2.1 3 (d 4))
def jCt (L : Nat → Bool) : Nat → Nat
  | 0 => 0
  | j + 1 => jCt L j + (if L j = true then 1 else 0)
def jSn (d : Td) (s y ill t : Nat) : Nat := if t < 25 then (jT d (jX0 d s ill) (t + 1)).1.1 else jNt d y (jQ d s ill)
theorem jL_L {q : Jt} {j n : Nat} : ∀ i, q.2.1 i = true → (jL q j n).2.1 i = true := by
  intro i h
  unfold jL
  split
  · exact h
  · show (if i = j then true else q.2.1 i) = true
    split
    · rfl
    · exact h
theorem jL_ne {q : Jt} {j n i : Nat} (h : ¬ i = j) : (jL q j n).2.1 i = q.2.1 i := by
  unfold jL
  split
  · rfl
  · show (if i = j then true else q.2.1 i) = _
    rw [if_neg h]
theorem jL_1 (q : Jt) (j n : Nat) : (jL q j n).1 = q.1 := by
  unfold jL
  split <;> rfl
theorem jB1_L {d : Td} {t : Nat} {q : Jt} {j i : Nat} (h : q.2.1 i = true) : (jB1 d t q j).2.1 i = true := by
  unfold jB1
  split
  · split
    · exact h
    · exact jL_L i h
  · exact h
theorem jB1_ne {d : Td} {t : Nat} {q : Jt} {j i : Nat} (h : ¬ i = j) : (jB1 d t q j).2.1 i = q.2.1 i := by
  unfold jB1
  split
  · split
    · rfl
    · exact jL_ne h
  · rfl
theorem jBn_L {d : Td} {t : Nat} {q : Jt} {i : Nat} (h : q.2.1 i = true) : ∀ n, (jBn d t q n).2.1 i = true
  | 0 => h
  | n + 1 => jB1_L (jBn_L h n)
theorem jBn_ne {d : Td} {t : Nat} {q : Jt} {i : Nat} : ∀ n, n ≤ i → (jBn d t q n).2.1 i = q.2.1 i
  | 0, _ => rfl
  | n + 1, h => (jB1_ne (by omega)).trans (jBn_ne n (by omega))
theorem jT_L {d : Td} {x : Jt × Nat × Nat} {i : Nat} (h : x.1.2.1 i = true) : ∀ t, (jT d x t).1.2.1 i = true
  | 0 => h
  | t + 1 => jBn_L (q := ((wT d t ((jT d x t).1.1 ||| jG d (jGo d (jT d x t).1.2.1) t (d 4))).1, (jT d x t).1.2)) (jT_L h t) (d 4)
theorem jB1_le {d : Td} {t : Nat} {q : Jt} {j : Nat} : (jB1 d t q j).1 ≤ q.1 := by
  unfold jB1
  split
  · split
    · exact r_dif_le _ _
    · rw [jL_1]
      exact Nat.le_refl _
  · exact Nat.le_refl _
theorem jBn_le {d : Td} {t : Nat} {q : Jt} : ∀ n, (jBn d t q n).1 ≤ q.1
  | 0 => Nat.le_refl _
  | n + 1 => Nat.le_trans jB1_le (jBn_le n)
theorem jN_1 (d : Td) (q : Jt) : ∀ n, (jN d q n).1 = q.1
  | 0 => rfl
  | n + 1 => by
    rw [jN]
    split
    · rw [jL_1]
      exact jN_1 d q n
    · exact jN_1 d q n
theorem jG_lt {d : Td} (wf : Wf d) (wj : Wj d) {P : Nat → Bool} (hP : ∀ j, P j = true → d (521 + 5 * j) = 0) (e : Nat) : ∀ n, n ≤ d 4 → jG d P e n < 2 ^ d 0
  | 0, _ => Nat.two_pow_pos _
  | n + 1, h => by
    have ih := jG_lt wf wj hP e n (by omega)
    rw [jG]
    split
    · rename_i q
      have w1 := (wj n (by omega)).2.1 (hP n q.1)
      have w2 := (wf.2.2.2.2.1 _ w1.2.1).1
      exact Nat.or_lt_two_pow ih (Nat.pow_lt_pow_right (by decide) w2)
    · exact ih
theorem jG_tb {d : Td} {P : Nat → Bool} {e i : Nat} : ∀ {n : Nat}, (jG d P e n).testBit i = true ↔ ∃ j, j < n ∧ P j = true ∧ jE d j = e ∧ d (29 + d (523 + 5 * j)) = i
  | 0 => by
    rw [jG, Nat.zero_testBit]
    constructor
    · intro z
      cases z
    · rintro ⟨j, h, _⟩
      omega
  | n + 1 => by
    have ih := jG_tb (d := d) (P := P) (e := e) (i := i) (n := n)
    rw [jG]
    constructor
    · intro z
      split at z
      · rename_i q
        rw [Nat.testBit_or, Bool.or_eq_true] at z
        rcases z with z | z
        · obtain ⟨j, h1, h2⟩ := ih.mp z
          exact ⟨j, by omega, h2⟩
        · rw [Nat.testBit_two_pow] at z
          exact ⟨n, by omega, q.1, q.2, of_decide_eq_true z⟩
      · obtain ⟨j, h1, h2⟩ := ih.mp z
        exact ⟨j, by omega, h2⟩
    · rintro ⟨j, h1, h2, h3, h4⟩
      by_cases ej : j = n
      · subst ej
        rw [if_pos ⟨h2, h3⟩, Nat.testBit_or, Nat.testBit_two_pow, h4]
        simp
      · have z := ih.mpr ⟨j, by omega, h2, h3, h4⟩
        split
        · rw [Nat.testBit_or, z, Bool.true_or]
        · exact z
theorem jG_cg {d : Td} {P P' : Nat → Bool} {e : Nat} {n : Nat} (h : ∀ j, j < n → jE d j = e → P j = P' j) : jG d P e n = jG d P' e n := by
  apply Nat.eq_of_testBit_eq
  intro i
  rw [Bool.eq_iff_iff, jG_tb, jG_tb]
  constructor
  · rintro ⟨j, h1, h2, h3, h4⟩
    exact ⟨j, h1, (h j h1 h3) ▸ h2, h3, h4⟩
  · rintro ⟨j, h1, h2, h3, h4⟩
    exact ⟨j, h1, (h j h1 h3).symm ▸ h2, h3, h4⟩
theorem jG_add {d : Td} {P P' : Nat → Bool} {e n j0 : Nat} (h0 : j0 < n) (hP : P' j0 = true) (he : jE d j0 = e) (h : ∀ j, j < n → ¬ j = j0 → P j = P' j) : jG d P e n ||| 2 ^ d (29 + d (523 + 5 * j0)) = jG d P' e n := by
  apply Nat.eq_of_testBit_eq
  intro i
  rw [Nat.testBit_or, Nat.testBit_two_pow, Bool.eq_iff_iff, Bool.or_eq_true, jG_tb, jG_tb, decide_eq_true_iff]
  constructor
  · rintro (⟨j, h1, h2, h3, h4⟩ | z)
    · by_cases e2 : j = j0
      · subst e2
        exact ⟨j, h1, hP, h3, h4⟩
      · exact ⟨j, h1, (h j h1 e2) ▸ h2, h3, h4⟩
    · exact ⟨j0, h0, hP, he, z⟩
  · rintro ⟨j, h1, h2, h3, h4⟩
    by_cases e2 : j = j0
    · subst e2
      exact Or.inr h4
    · exact Or.inl ⟨j, h1, (h j h1 e2).symm ▸ h2, h3, h4⟩
/-- the jobs that have begun at a time ahead of its n-th -/
def jPg (d : Td) (L : Nat → Bool) (t n : Nat) (j : Nat) : Bool := jGo d L j && decide (d (522 + 5 * j) < t ∨ (d (522 + 5 * j) = t ∧ j < n))
theorem jPg_0 {d : Td} {L : Nat → Bool} {e n : Nat} (wf : Wf d) (wj : Wj d) (hn : n ≤ d 4) : jG d (jPg d L e 0) e n = jG d (jGo d L) e n := by
  apply jG_cg
  intro j h1 h2
  unfold jPg
  cases hg : jGo d L j
  · rfl
  · rw [Bool.true_and, decide_eq_true_iff]
    unfold jGo at hg
    rw [Bool.and_eq_true] at hg
    have w1 := (wj j (by omega)).2.1 (of_decide_eq_true hg.1)
    have w2 := (wf.2.2.2.2.1 _ w1.2.1).2.1
    unfold jE at h2
    omega
theorem jPg_k {d : Td} {L : Nat → Bool} {t n j : Nat} (h : jPg d L t n j = true) : d (521 + 5 * j) = 0 := by
  unfold jPg jGo at h
  rw [Bool.and_eq_true, Bool.and_eq_true] at h
  exact of_decide_eq_true h.1.1
theorem jGo_k {d : Td} {L : Nat → Bool} {j : Nat} (h : jGo d L j = true) : d (521 + 5 * j) = 0 := by
  unfold jGo at h
  rw [Bool.and_eq_true] at h
  exact of_decide_eq_true h.1
/-- what a time's n-th job gives the hours to come -/
theorem jPg_s {d : Td} {q : Jt} {t n e N : Nat} (hn : n < N) (hend : q.2.1 n = false → d (521 + 5 * n) = 0 → jE d n ≤ 24) :
    jG d (jPg d (jB1 d t q n).2.1 t (n + 1)) e N = if d (521 + 5 * n) = 0 ∧ d (522 + 5 * n) = t ∧ q.2.1 n = false ∧ r_dif (sNd d (d (523 + 5 * n))) q.1 = 0 ∧ jE d n = e then jG d (jPg d q.2.1 t n) e N ||| 2 ^ d (29 + d (523 + 5 * n)) else jG d (jPg d q.2.1 t n) e N := by
  have hne : ∀ j, ¬ j = n → jPg d q.2.1 t n j = jPg d (jB1 d t q n).2.1 t (n + 1) j := by
    intro j h
    unfold jPg jGo
    rw [jB1_ne h]
    congr 1
    exact decide_eq_decide.mpr (by omega)
  split
  · rename_i z
    refine (jG_add hn ?_ z.2.2.2.2 (fun j _ h => hne j h)).symm
    unfold jPg jGo jB1
    rw [if_pos ⟨z.1, z.2.1, z.2.2.1⟩, if_pos z.2.2.2.1]
    show ((decide (d (521 + 5 * n) = 0) && !q.2.1 n) && decide (d (522 + 5 * n) < t ∨ d (522 + 5 * n) = t ∧ n < n + 1)) = true
    rw [z.2.2.1, decide_eq_true z.1, decide_eq_true (Or.inr ⟨z.2.1, Nat.lt_succ_self n⟩)]
    rfl
  · rename_i z
    apply jG_cg
    intro j h1 h2
    by_cases e2 : j = n
    · subst e2
      unfold jPg jGo
      by_cases hk : d (521 + 5 * j) = 0
      · cases hL : q.2.1 j
        · by_cases ht : d (522 + 5 * j) = t
          · have hr : ¬ r_dif (sNd d (d (523 + 5 * j))) q.1 = 0 := fun y => z ⟨hk, ht, hL, y, h2⟩
            have e3 : (jB1 d t q j).2.1 j = true := by
              unfold jB1
              rw [if_pos ⟨hk, ht, hL⟩, if_neg hr]
              unfold jL
              rw [if_neg hr]
              show (if j = j then true else _) = true
              rw [if_pos rfl]
            rw [e3, decide_eq_false (show ¬ (d (522 + 5 * j) < t ∨ d (522 + 5 * j) = t ∧ j < j) by omega)]
            simp
          · have e3 : jB1 d t q j = q := by
              unfold jB1
              rw [if_neg (fun y => ht y.2.1)]
            rw [e3, hL]
            congr 1
            exact decide_eq_decide.mpr (by omega)
        · rw [jB1_L hL]
          simp
      · rw [decide_eq_false hk]
        simp
    · exact (hne j e2).symm
theorem jPg_n {d : Td} {L : Nat → Bool} {t e N : Nat} : jG d (jPg d L t N) e N = jG d (jPg d L (t + 1) 0) e N := by
  apply jG_cg
  intro j h1 _
  unfold jPg
  congr 1
  exact decide_eq_decide.mpr (by omega)
theorem jPg_z {d : Td} {L : Nat → Bool} {e : Nat} : ∀ n, jG d (jPg d L 0 0) e n = 0
  | 0 => rfl
  | n + 1 => by
    rw [jG, if_neg]
    · exact jPg_z n
    · rintro ⟨z, _⟩
      unfold jPg at z
      rw [Bool.and_eq_true, decide_eq_true_iff] at z
      omega
theorem wTk_z {d : Td} (wf : Wf d) (t s : Nat) : ∀ k, k ≤ d 3 → ((wTk d t s k).2.1 = 0 ↔ (wTk d t s k).2.2 = 0)
  | 0, _ => Iff.rfl
  | k + 1, hk => by
    have ih := wTk_z wf t s k (by omega)
    have hw := wf.2.2.2.2.2.2 k (by omega)
    rw [wTk]
    split
    · unfold wSat
      split
      · show _ + _ = 0 ↔ _ + 1 = 0
        omega
      · exact ih
    · exact ih
theorem wT_z {d : Td} (wf : Wf d) (t s : Nat) : (wT d t s).2.1 = 0 ↔ (wT d t s).2.2 = 0 := wTk_z wf t s (d 3) (Nat.le_refl _)
theorem jT_lt {d : Td} (wf : Wf d) (wj : Wj d) {x : Jt × Nat × Nat} (h : x.1.1 < 2 ^ d 0) : ∀ t, (jT d x t).1.1 < 2 ^ d 0
  | 0 => h
  | t + 1 => by
    have ih := jT_lt wf wj h t
    have h1 := jG_lt wf wj (P := jGo d (jT d x t).1.2.1) (fun j => jGo_k) t (d 4) (Nat.le_refl _)
    have h2 := wT_le d t ((jT d x t).1.1 ||| jG d (jGo d (jT d x t).1.2.1) t (d 4))
    have h3 := Nat.or_lt_two_pow ih h1
    have h4 : (jT d x (t + 1)).1.1 ≤ (wT d t ((jT d x t).1.1 ||| jG d (jGo d (jT d x t).1.2.1) t (d 4))).1 := jBn_le (q := ((wT d t ((jT d x t).1.1 ||| jG d (jGo d (jT d x t).1.2.1) t (d 4))).1, (jT d x t).1.2)) (d 4)
    omega
theorem jT_b {d : Td} (wf : Wf d) {x : Jt × Nat × Nat} (h0 : x.2.1 = 0 ∧ x.2.2 = 0) : ∀ t, (jT d x t).2.1 ≤ 7992 * t ∧ (jT d x t).2.2 ≤ 8 * t ∧ ((jT d x t).2.1 = 0 ↔ (jT d x t).2.2 = 0)
  | 0 => by
    show x.2.1 ≤ _ ∧ x.2.2 ≤ _ ∧ (x.2.1 = 0 ↔ x.2.2 = 0)
    omega
  | t + 1 => by
    have ih := jT_b wf h0 t
    have h1 := wT_b wf t ((jT d x t).1.1 ||| jG d (jGo d (jT d x t).1.2.1) t (d 4))
    have h2 := wT_z wf t ((jT d x t).1.1 ||| jG d (jGo d (jT d x t).1.2.1) t (d 4))
    show (jT d x t).2.1 + _ ≤ _ ∧ (jT d x t).2.2 + _ ≤ _ ∧ ((jT d x t).2.1 + _ = 0 ↔ (jT d x t).2.2 + _ = 0)
    omega
/-- a told one is the only one of its kind -/
def Wn (d : Td) : Prop := d 520 ≤ 1 ∧ ∀ i j, i < d 4 → j < d 4 → ¬ d (521 + 5 * i) = 0 → d (521 + 5 * i) = d (521 + 5 * j) → i = j
theorem jTo_u {d : Td} {L : Nat → Bool} {kd j : Nat} (hu : ∀ i, d (521 + 5 * i) = kd → i < d 4 → i = j) (hk : d (521 + 5 * j) = kd) (hL : L j = false) : ∀ n, j < n → n ≤ d 4 → jTo d L kd n = d (523 + 5 * j) + 1
  | 0, h, _ => by omega
  | n + 1, h, h2 => by
    rw [jTo]
    by_cases e : j = n
    · subst e
      rw [if_pos ⟨hk, hL⟩]
    · rw [if_neg (fun z => e (hu n z.1 (by omega)).symm)]
      exact jTo_u hu hk hL n (by omega) (by omega)
theorem jTo_z {d : Td} {L : Nat → Bool} {kd : Nat} : ∀ n, (∀ i, i < n → ¬ (d (521 + 5 * i) = kd ∧ L i = false)) → jTo d L kd n = 0
  | 0, _ => rfl
  | n + 1, h => by
    rw [jTo, if_neg (h n (by omega))]
    exact jTo_z n (fun i hi => h i (by omega))
theorem jTo_cg {d : Td} {L L' : Nat → Bool} {kd : Nat} : ∀ n, (∀ i, i < n → ¬ d (521 + 5 * i) = 0 → L i = L' i) → ¬ kd = 0 → jTo d L kd n = jTo d L' kd n
  | 0, _, _ => rfl
  | n + 1, h, hk => by
    rw [jTo, jTo, jTo_cg n (fun i hi => h i (by omega)) hk]
    by_cases e : d (521 + 5 * n) = kd
    · rw [h n (by omega) (by omega)]
    · rw [if_neg (fun z => e z.1), if_neg (fun z => e z.1)]
theorem jTo_le {d : Td} (wj : Wj d) {L : Nat → Bool} {kd : Nat} (hk : ¬ kd = 0) : ∀ n, n ≤ d 4 → jTo d L kd n ≤ d 0
  | 0, _ => Nat.zero_le _
  | n + 1, h => by
    rw [jTo]
    split
    · rename_i z
      have := ((wj n (by omega)).2.2 (by omega)).1
      omega
    · exact jTo_le wj hk n (by omega)
theorem jN_ne {d : Td} {q : Jt} {i : Nat} : ∀ n, n ≤ i → (jN d q n).2.1 i = q.2.1 i
  | 0, _ => rfl
  | n + 1, h => by
    rw [jN]
    split
    · rw [jL_ne (by omega)]
      exact jN_ne n (by omega)
    · exact jN_ne n (by omega)
theorem jN_st {d : Td} {q : Jt} {i m : Nat} (hm : i < m) : ∀ n, m ≤ n → (jN d q n).2.1 i = (jN d q m).2.1 i
  | 0, h => by omega
  | n + 1, h => by
    by_cases e : m = n + 1
    · rw [e]
    · rw [jN]
      split
      · rw [jL_ne (by omega)]
        exact jN_st hm n (by omega)
      · exact jN_st hm n (by omega)
/-- one that is told for the night and not left at the end is there -/
theorem jN_has {d : Td} {q : Jt} {i n : Nat} (hi : i < n) (hk : ¬ d (521 + 5 * i) = 0) (h : (jN d q n).2.1 i = false) : q.1.testBit (d (523 + 5 * i)) = true := by
  rw [jN_st (Nat.lt_succ_self i) n hi, jN] at h
  by_cases e : (jN d q i).2.1 i = false
  · rw [if_pos ⟨hk, e⟩] at h
    unfold jL at h
    rw [jN_1] at h
    split at h
    · rename_i z
      have z1 : (r_dif (2 ^ d (523 + 5 * i)) q.1).testBit (d (523 + 5 * i)) = false := by rw [z, Nat.zero_testBit]
      rw [r_dif_bit, Nat.testBit_two_pow, decide_eq_true rfl, Bool.true_and] at z1
      cases y : q.1.testBit (d (523 + 5 * i))
      · rw [y] at z1
        cases z1
      · rfl
    · have h2 : (if i = i then true else (jN d q i).2.1 i) = false := h
      rw [if_pos rfl] at h2
      cases h2
  · rw [if_neg (fun z => e z.2)] at h
    exact absurd h e
theorem jCt_le (L : Nat → Bool) : ∀ n, jCt L n ≤ n
  | 0 => Nat.le_refl _
  | n + 1 => by
    have := jCt_le L n
    rw [jCt]
    split <;> omega
theorem jSn_lt {d : Td} (wf : Wf d) (wj : Wj d) {s y ill t : Nat} (hs : s < 2 ^ d 0) : jSn d s y ill t < 2 ^ d 0 := by
  unfold jSn
  split
  · exact jT_lt wf wj (x := jX0 d s ill) hs _
  · exact stA_lt _ _ _ _ _ _ _
-- DAYS
def jDw (s : Nat) : Nat := (s * 2333 + 10007) % 65536
def jDr (d : Td) (s : Nat) : Nat → Nat × Nat
  | 0 => (s, 0)
  | p + 1 => (jDw (jDr d s p).1, if jDw (jDr d s p).1 / 8 % 16 < d (101 + p) then (jDr d s p).2 ||| 2 ^ p else (jDr d s p).2)
/-- set, draws, worth; jobs left, days with all, with nothing -/
abbrev Lt6 : Type := (Nat × Nat × Nat) × Nat × Nat × Nat
def jSk (d : Td) (il : Bool) (s : Nat) : Nat × Nat := if il = true then jDr d s (d 2) else (s, 0)
def jV1 (d : Td) (il : Bool) (n : Nat) (x : Lt6) : Lt6 := ((jNt d n (jQ d x.1.1 (jSk d il x.1.2.1).2), (jSk d il x.1.2.1).1, x.1.2.2 + (jX d x.1.1 (jSk d il x.1.2.1).2).2.1), x.2.1 + jCt (jQ d x.1.1 (jSk d il x.1.2.1).2).2.1 (d 4), x.2.2.1 + (if (jX d x.1.1 (jSk d il x.1.2.1).2).2.2 = d 3 then 1 else 0), x.2.2.2 + (if (jX d x.1.1 (jSk d il x.1.2.1).2).2.2 = 0 then 1 else 0))
def jV (d : Td) (il : Bool) (s : Nat) : Nat → Lt6
  | 0 => ((0, s, 0), 0, 0, 0)
  | n + 1 => jV1 d il n (jV d il s n)
theorem jDr_b {d : Td} {s : Nat} (hs : s < 65536) : ∀ p, (jDr d s p).1 < 65536 ∧ (jDr d s p).2 < 2 ^ p
  | 0 => ⟨hs, Nat.one_pos⟩
  | p + 1 => by
    have ih := (jDr_b (d := d) hs p).2
    have h1 : 2 ^ p < 2 ^ (p + 1) := Nat.pow_lt_pow_right (by decide) (by omega)
    refine ⟨Nat.mod_lt _ (by decide), ?_⟩
    rw [jDr]
    show (if _ then _ else _) < _
    split
    · exact Nat.or_lt_two_pow (by omega) h1
    · omega
theorem jV_b {d : Td} (wf : Wf d) {il : Bool} {s : Nat} (hs : s < 65536) : ∀ n, (jV d il s n).1.1 < 2 ^ d 0 ∧ (jV d il s n).1.2.1 < 65536
  | 0 => ⟨Nat.two_pow_pos _, hs⟩
  | n + 1 => by
    have ih := (jV_b (d := d) (il := il) wf hs n).2
    refine ⟨stA_lt _ _ _ _ _ _ _, ?_⟩
    show (jSk d il (jV d il s n).1.2.1).1 < 65536
    unfold jSk
    split
    · exact (jDr_b (d := d) ih _).1
    · exact ih
theorem jSk_b {d : Td} (wf : Wf d) {il : Bool} {s : Nat} (hs : s < 65536) : (jSk d il s).2 < 64 := by
  unfold jSk
  split
  · have h1 := (jDr_b (d := d) hs (d 2)).2
    have h2 : 2 ^ d 2 ≤ 2 ^ 6 := Nat.pow_le_pow_right (by decide) wf.1.2.2.1
    have h3 : 2 ^ 6 = 64 := by decide
    omega
  · omega
def f_lv (x : Lt6) : Tl := (true, fun k => if k = 0 then nI x.2.1 else if k = 1 then nI x.1.1 else if k = 2 then nI x.2.2.1 else nI x.2.2.2)
def g_lives (d : Td) (n : Int32) : Int32 × Nat := if ¬ (1 ≤ n.toInt ∧ n.toInt ≤ 99) then (-1, 5) else if d 520 = 0 then (-1, 8) else (nI (jV d false 0 n.toInt.toNat).1.2.2, 0)
def f_lives (d : Td) (n : Int32) (lv : Tl) : Tl := if ¬ (1 ≤ n.toInt ∧ n.toInt ≤ 99) then lv else if d 520 = 0 then lv else f_lv (jV d false 0 n.toInt.toNat)
def g_ill (d : Td) (s n : Int32) : Int32 × Nat := if ¬ ((0 ≤ s.toInt ∧ s.toInt ≤ 9999) ∧ 1 ≤ n.toInt ∧ n.toInt ≤ 99) then (-1, 5) else if d 520 = 0 then (-1, 8) else (nI (jV d true s.toInt.toNat n.toInt.toNat).1.2.2, 0)
def f_ill (d : Td) (s n : Int32) (lv : Tl) : Tl := if ¬ ((0 ≤ s.toInt ∧ s.toInt ≤ 9999) ∧ 1 ≤ n.toInt ∧ n.toInt ≤ 99) then lv else if d 520 = 0 then lv else f_lv (jV d true s.toInt.toNat n.toInt.toNat)
def g_done (d : Td) (s y : Int32) : Int32 × Nat := if ¬ (0 ≤ s.toInt ∧ s.toInt < ((2 ^ d 0 : Nat) : Int)) then (-1, 2) else if ¬ (0 ≤ y.toInt ∧ y.toInt ≤ 999) then (-1, 5) else if d 520 = 0 then (-1, 8) else (nI (jX d s.toInt.toNat 0).2.1, 0)
def f_done (d : Td) (s y : Int32) (th : Tl) : Tl := if ¬ (0 ≤ s.toInt ∧ s.toInt < ((2 ^ d 0 : Nat) : Int)) then th else if ¬ (0 ≤ y.toInt ∧ y.toInt ≤ 999) then th else if d 520 = 0 then th else (true, fun t => nI (jSn d s.toInt.toNat y.toInt.toNat 0 t))
def jF (d : Td) : Nat → Nat
  | 0 => 0
  | n + 1 => if jF d n = 0 then (if jW d n = 0 then 0 else n + 1) else jF d n
def g_judged (d : Td) (w : Int32) : Int32 × Nat := if ¬ (0 ≤ w.toInt ∧ w.toInt ≤ 2) then (-1, 5) else if ¬ jF d (d 4) = 0 then (if w.toInt = 0 then (nI (jW d (jF d (d 4) - 1)), 0) else if w.toInt = 1 then (nI (jF d (d 4) - 1), 0) else (-1, 8)) else if (jQ d 0 0).2.2.1 = 0 then (if w.toInt = 0 then (nI 0, 0) else (-1, 8)) else if w.toInt = 0 then (nI 6, 0) else if w.toInt = 1 then (nI ((jQ d 0 0).2.2.1 - 1), 0) else (nI (jQ d 0 0).2.2.2, 0)
