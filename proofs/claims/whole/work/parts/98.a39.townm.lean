-- READING: THE MATHEMATICS OF A TOWN
theorem sNext_1 (s : Ps) : s.1 ≤ (sNext s).1 := by
  unfold sNext
  split
  · exact Nat.le_succ _
  · exact Nat.le_refl _
theorem sWrong_1e (T : Tx) (s : Ps) : (sWrong T s).1 = s.1 := by
  unfold sWrong
  split <;> rfl
theorem sFail_1e (f : Nat) (s : Ps) : (sFail f s).1 = s.1 := by
  unfold sFail
  split <;> rfl
theorem sMust_1 (T : Tx) (b : Bool) (s : Ps) : s.1 ≤ (sMust T b s).1 := by
  unfold sMust
  split
  · exact sNext_1 s
  · rw [sWrong_1e]
    exact Nat.le_refl _
theorem sCount_1 (T : Tx) (lo hi : Nat) (s : Ps) : s.1 ≤ (sCount T lo hi s).1 := by
  unfold sCount
  split
  · split
    · exact sNext_1 s
    · rw [sFail_1e]
      exact Nat.le_refl _
  · rw [sWrong_1e]
    exact Nat.le_refl _
theorem sOld_1 (T : Tx) (W : Nat → List Nat) (b n : Nat) (s : Ps) : (sOld T W b n s).1 = s.1 := by
  unfold sOld
  split
  · split
    · exact sFail_1e _ _
    · rfl
  · exact sWrong_1e _ _
theorem sNew_1 (T : Tx) (c lim : Nat) (x : St9) (s : Ps) : s.1 ≤ (sNew T c lim x s).1 := by
  unfold sNew
  split
  · exact Nat.le_refl _
  · split
    · exact Nat.le_refl _
    · split
      · rw [sWrong_1e]
        exact Nat.le_succ _
      · split
        · exact Nat.le_succ _
        · show s.1 ≤ s.1 + 2
          omega
theorem sIf_1 (T : Tx) (w : Nat) (s : Ps) : s.1 ≤ (sIf T w s).1 := by
  unfold sIf
  split
  · exact Nat.le_succ _
  · exact Nat.le_refl _
theorem sRw_1 {T : Tx} {W : Nat → List Nat} {b n had e : Nat} : ∀ (f set : Nat) (s : Ps), s.1 ≤ (sRw T W b n had e f set s).2.1
  | 0, set, s => Nat.le_refl _
  | f + 1, set, s => by
    rw [sRw]
    split
    · rw [sOld_1]
      exact Nat.le_refl _
    · split
      · exact Nat.le_refl _
      · split
        · have ih := sRw_1 (T := T) (W := W) (b := b) (n := n) (had := had) (e := e) f (set ||| 2 ^ (fN W (tL T s.1) b n - 1)) (s.1 + 1, 0)
          have : (s.1 + 1, 0).1 = s.1 + 1 := rfl
          omega
        · exact Nat.le_succ _
theorem sOpt_1 (T : Tx) (W : Nat → List Nat) (n had w : Nat) (s : Ps) : s.1 ≤ (sOpt T W n had w s).2.1 := by
  unfold sOpt
  split
  · have h := sRw_1 (T := T) (W := W) (b := 0) (n := n) (had := had) (e := 136) (801 - (s.1 + 1)) 0 (s.1 + 1, 0)
    have : (s.1 + 1, 0).1 = s.1 + 1 := rfl
    omega
  · exact Nat.le_refl _
theorem thS_1 (T : Tx) (x : St9) (s : Ps) : s.1 ≤ (thS T x s).1 := Nat.le_trans (sNew_1 T 0 8 x s) (Nat.le_trans (sIf_1 _ _ _) (sIf_1 _ _ _))
theorem mkS_1 (T : Tx) (x : St9) (s : Ps) : s.1 ≤ (mkS T x s).1 := by
  have h1 : s.1 ≤ (mk1 T x s).1 := Nat.le_trans (sNew_1 T 1 12 x s) (sMust_1 _ _ _)
  have h2 : (mk1 T x s).1 ≤ (mk2 T x s).1 := Nat.le_trans (Nat.le_of_eq (sOld_1 T x.2 0 (x.1 0) (mk1 T x s)).symm) (sNext_1 _)
  have h3 : (mk2 T x s).1 ≤ (mk3 T x s).1 := sMust_1 _ _ _
  have h4 : (mk3 T x s).1 ≤ (mk4 T x s).1 := sCount_1 _ _ _ _
  have h5 : (mk4 T x s).1 ≤ (mk5 T x s).1 := sMust_1 _ _ _
  have h6 : (mk5 T x s).1 ≤ (mk6 T x s).1 := sCount_1 _ _ _ _
  have h7 : (mk6 T x s).1 ≤ (mk7 T x s).2.1 := sOpt_1 _ _ _ _ _ _
  have h8 : (mk7 T x s).2.1 ≤ (mk8 T x s).2.1 := sOpt_1 _ _ _ _ _ _
  show s.1 ≤ (mk8 T x s).2.1
  omega
theorem peS_1 (T : Tx) (x : St9) (s : Ps) : s.1 ≤ (peS T x s).1 := by
  have h1 : s.1 ≤ (pe1 T x s).1 := Nat.le_trans (sNew_1 T 2 6 x s) (sMust_1 _ _ _)
  have h2 : (pe1 T x s).1 ≤ (pe2 T x s).1 := sCount_1 _ _ _ _
  have h3 : (pe2 T x s).1 ≤ (pe3 T x s).1 := sMust_1 _ _ _
  have h4 : (pe3 T x s).1 ≤ (pe4 T x s).1 := sCount_1 _ _ _ _
  have h5 : (pe4 T x s).1 ≤ (peS T x s).1 := by
    unfold peS
    split
    · have h := sCount_1 T 0 16 ((pe4 T x s).1 + 1, 0)
      have : ((pe4 T x s).1 + 1, 0).1 = (pe4 T x s).1 + 1 := rfl
      omega
    · exact Nat.le_refl _
  omega
theorem waS_1 (T : Tx) (x : St9) (s : Ps) : s.1 ≤ (waS T x s).1 := by
  have h0 : s.1 ≤ (wa0 T x s).1 := by
    unfold wa0
    refine Nat.le_trans ?_ (sNext_1 _)
    split
    · rw [sFail_1e]
      exact Nat.le_refl _
    · exact Nat.le_refl _
  have h1 : (wa0 T x s).1 ≤ (wa1 T x s).1 := Nat.le_trans (Nat.le_of_eq (sOld_1 T x.2 0 (x.1 0) (wa0 T x s)).symm) (sNext_1 _)
  have h2 : (wa1 T x s).1 ≤ (wa2 T x s).1 := sMust_1 _ _ _
  have h3 : (wa2 T x s).1 ≤ (wa3 T x s).1 := sCount_1 _ _ _ _
  have h4 : (wa3 T x s).1 ≤ (wa4 T x s).1 := sMust_1 _ _ _
  have h5 : (wa4 T x s).1 ≤ (wa5 T x s).1 := sCount_1 _ _ _ _
  have h6 : (wa5 T x s).1 ≤ (waS T x s).1 := sIf_1 _ _ _
  omega
/-- what a part is ahead of its ';' -/
def paS (T : Tx) (x : St9) (s : Ps) : Ps := if tK T s.1 = 128 then thS T x s else if tK T s.1 = 131 then mkS T x s else if tK T s.1 = 137 then peS T x s else if tK T s.1 = 141 then waS T x s else sWrong T s
theorem prS_e (T : Tx) (x : St9) (s : Ps) : prS T x s = sMust T (decide (tK T (paS T x s).1 = 59)) (paS T x s) := rfl
theorem paS_1 (T : Tx) (x : St9) (s : Ps) : s.1 ≤ (paS T x s).1 := by
  unfold paS
  split
  · exact thS_1 T x s
  · split
    · exact mkS_1 T x s
    · split
      · exact peS_1 T x s
      · split
        · exact waS_1 T x s
        · rw [sWrong_1e]
          exact Nat.le_refl _
theorem prS_adv {T : Tx} {x : St9} {s : Ps} (h : (prS T x s).2 = 0) : s.1 + 1 ≤ (prS T x s).1 ∧ (paS T x s).2 = 0 ∧ tK T (paS T x s).1 = 59 ∧ prS T x s = ((paS T x s).1 + 1, 0) := by
  rw [prS_e] at h ⊢
  have h1 := sMust_ok h
  have h2 := paS_1 T x s
  rw [h1.2.2]
  refine ⟨?_, h1.1, of_decide_eq_true h1.2.1, rfl⟩
  show s.1 + 1 ≤ (paS T x s).1 + 1
  omega
theorem paS_w {T : Tx} {x : St9} {s : Ps} (h0 : s.2 = 0) (h : (paS T x s).2 = 0) : tK T s.1 = 128 ∨ tK T s.1 = 131 ∨ tK T s.1 = 137 ∨ tK T s.1 = 141 := by
  unfold paS at h
  split at h
  · exact Or.inl (by assumption)
  · split at h
    · exact Or.inr (Or.inl (by assumption))
    · split at h
      · exact Or.inr (Or.inr (Or.inl (by assumption)))
      · split at h
        · exact Or.inr (Or.inr (Or.inr (by assumption)))
        · exact absurd h (sWrong_n h0).1
