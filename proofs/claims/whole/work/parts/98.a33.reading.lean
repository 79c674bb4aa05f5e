-- READING: THE MATHEMATICS
/-- where the reading stands: the token ahead, and the fault there (0: none) -/
abbrev Ps : Type := Nat × Nat
/-- what was read: numbers and names -/
abbrev St9 : Type := Td × (Nat → List Nat)
def sFail (f : Nat) (s : Ps) : Ps := if s.2 = 0 then (s.1, f) else s
def sWrong (T : Tx) (s : Ps) : Ps := if s.2 = 0 then (s.1, if tK T s.1 = 1 then 1 else 2) else s
def sNext (s : Ps) : Ps := if s.2 = 0 then (s.1 + 1, 0) else s
def sMust (T : Tx) (b : Bool) (s : Ps) : Ps := if b = true then sNext s else sWrong T s
def sCount (T : Tx) (lo hi : Nat) (s : Ps) : Ps := if tK T s.1 = 2 then (if lo ≤ tV T s.1 ∧ tV T s.1 ≤ hi then sNext s else sFail 4 s) else sWrong T s
def fF (p : Nat → Bool) : Nat → Nat
  | 0 => 0
  | n + 1 => if fF p n = 0 then (if p n = true then n + 1 else 0) else fF p n
def fN (W : Nat → List Nat) (l : List Nat) (b n : Nat) : Nat := fF (fun k => decide (W (b + k) = l)) n
def sOld (T : Tx) (W : Nat → List Nat) (b n : Nat) (s : Ps) : Ps := if tK T s.1 = 3 then (if fN W (tL T s.1) b n = 0 then sFail 3 s else s) else sWrong T s
def tkn (x : St9) (l : List Nat) : Bool := decide (¬ fN x.2 l 0 (x.1 0) = 0) || (decide (¬ fN x.2 l 8 (x.1 1) = 0) || decide (¬ fN x.2 l 20 (x.1 2) = 0))
def sNew (T : Tx) (c lim : Nat) (x : St9) (s : Ps) : Ps := if ¬ s.2 = 0 then s else if x.1 c = lim then (s.1, 6) else if ¬ tK T (s.1 + 1) = 3 then sWrong T (s.1 + 1, 0) else if tkn x (tL T (s.1 + 1)) = true then (s.1 + 1, 3) else (s.1 + 2, 0)
def isWk (k : Nat) : Bool := decide (k = 3 ∨ k = 4 ∨ 128 ≤ k)
/-- names in a row; e: the word that ends it -/
def sRw (T : Tx) (W : Nat → List Nat) (b n had e : Nat) : Nat → Nat → Ps → Nat × Ps
  | 0, set, s => (set, s)
  | f + 1, set, s => if ¬ (sOld T W b n s).2 = 0 then (0, sOld T W b n s) else if (set ||| had).testBit (fN W (tL T s.1) b n - 1) = true then (0, (s.1, 5)) else if isWk (tK T (s.1 + 1)) = true ∧ ¬ tK T (s.1 + 1) = e then sRw T W b n had e f (set ||| 2 ^ (fN W (tL T s.1) b n - 1)) (s.1 + 1, 0) else (set ||| 2 ^ (fN W (tL T s.1) b n - 1), (s.1 + 1, 0))
/-- a row behind a word that begins one, if it is there -/
def sOpt (T : Tx) (W : Nat → List Nat) (n had w : Nat) (s : Ps) : Nat × Ps := if s.2 = 0 ∧ tK T s.1 = w then sRw T W 0 n had 136 (801 - (s.1 + 1)) 0 (s.1 + 1, 0) else (0, s)
def sIf (T : Tx) (w : Nat) (s : Ps) : Ps := if s.2 = 0 ∧ tK T s.1 = w then (s.1 + 1, 0) else s
def bIf (T : Tx) (w : Nat) (s : Ps) : Nat := if s.2 = 0 ∧ tK T s.1 = w then 1 else 0
def wU (W : Nat → List Nat) (k : Nat) (l : List Nat) : Nat → List Nat := fun j => if j = k then l else W j
-- a thing
def thS (T : Tx) (x : St9) (s : Ps) : Ps := sIf T 130 (sIf T 129 (sNew T 0 8 x s))
def thX (T : Tx) (x : St9) (s : Ps) : St9 := (fun j => if j = 0 then x.1 0 + 1 else if j = 5 + x.1 0 then bIf T 129 (sNew T 0 8 x s) else if j = 13 + x.1 0 then bIf T 130 (sIf T 129 (sNew T 0 8 x s)) else if j = 21 + x.1 0 then 0 else x.1 j, wU x.2 (x.1 0) (tL T (s.1 + 1)))
-- a making
def mk1 (T : Tx) (x : St9) (s : Ps) : Ps := sMust T (decide (tK T (sNew T 1 12 x s).1 = 132)) (sNew T 1 12 x s)
def mk2 (T : Tx) (x : St9) (s : Ps) : Ps := sNext (sOld T x.2 0 (x.1 0) (mk1 T x s))
def mk3 (T : Tx) (x : St9) (s : Ps) : Ps := sMust T (decide (tK T (mk2 T x s).1 = 133)) (mk2 T x s)
def mk4 (T : Tx) (x : St9) (s : Ps) : Ps := sCount T 1 24 (mk3 T x s)
def mk5 (T : Tx) (x : St9) (s : Ps) : Ps := sMust T (decide (tK T (mk4 T x s).1 = 134)) (mk4 T x s)
def mk6 (T : Tx) (x : St9) (s : Ps) : Ps := sCount T 1 3 (mk5 T x s)
def mk7 (T : Tx) (x : St9) (s : Ps) : Nat × Ps := sOpt T x.2 (x.1 0) 0 135 (mk6 T x s)
def mk8 (T : Tx) (x : St9) (s : Ps) : Nat × Ps := sOpt T x.2 (x.1 0) (mk7 T x s).1 136 (mk7 T x s).2
def mkS (T : Tx) (x : St9) (s : Ps) : Ps := (mk8 T x s).2
def mkX (T : Tx) (x : St9) (s : Ps) : St9 := (fun j => if j = 1 then x.1 1 + 1 else if j = 29 + x.1 1 then fN x.2 (tL T (mk1 T x s).1) 0 (x.1 0) - 1 else if j = 41 + x.1 1 then tV T (mk3 T x s).1 else if j = 53 + x.1 1 then tV T (mk5 T x s).1 else if j = 65 + x.1 1 then (mk7 T x s).1 else if j = 77 + x.1 1 then (mk8 T x s).1 else x.1 j, wU x.2 (8 + x.1 1) (tL T (s.1 + 1)))
-- a person
def pe1 (T : Tx) (x : St9) (s : Ps) : Ps := sMust T (decide (tK T (sNew T 2 6 x s).1 = 138)) (sNew T 2 6 x s)
def pe2 (T : Tx) (x : St9) (s : Ps) : Ps := sCount T 0 24 (pe1 T x s)
def pe3 (T : Tx) (x : St9) (s : Ps) : Ps := sMust T (decide (tK T (pe2 T x s).1 = 139)) (pe2 T x s)
def pe4 (T : Tx) (x : St9) (s : Ps) : Ps := sCount T 0 24 (pe3 T x s)
def peS (T : Tx) (x : St9) (s : Ps) : Ps := if (pe4 T x s).2 = 0 ∧ tK T (pe4 T x s).1 = 140 then sCount T 0 16 ((pe4 T x s).1 + 1, 0) else pe4 T x s
def peI (T : Tx) (x : St9) (s : Ps) : Nat := if (pe4 T x s).2 = 0 ∧ tK T (pe4 T x s).1 = 140 then tV T ((pe4 T x s).1 + 1) else 0
def peX (T : Tx) (x : St9) (s : Ps) : St9 := (fun j => if j = 2 then x.1 2 + 1 else if j = 89 + x.1 2 then tV T (pe1 T x s).1 else if j = 95 + x.1 2 then tV T (pe3 T x s).1 else if j = 101 + x.1 2 then peI T x s else x.1 j, wU x.2 (20 + x.1 2) (tL T (s.1 + 1)))
-- a want
def wa0 (T : Tx) (x : St9) (s : Ps) : Ps := sNext (if x.1 3 = 8 then sFail 6 s else s)
def wa1 (T : Tx) (x : St9) (s : Ps) : Ps := sNext (sOld T x.2 0 (x.1 0) (wa0 T x s))
def wa2 (T : Tx) (x : St9) (s : Ps) : Ps := sMust T (decide (tK T (wa1 T x s).1 = 142)) (wa1 T x s)
def wa3 (T : Tx) (x : St9) (s : Ps) : Ps := sCount T 0 24 (wa2 T x s)
def wa4 (T : Tx) (x : St9) (s : Ps) : Ps := sMust T (decide (tK T (wa3 T x s).1 = 143)) (wa3 T x s)
def wa5 (T : Tx) (x : St9) (s : Ps) : Ps := sCount T 1 999 (wa4 T x s)
def waS (T : Tx) (x : St9) (s : Ps) : Ps := sIf T 144 (wa5 T x s)
def waX (T : Tx) (x : St9) (s : Ps) : St9 := (fun j => if j = 3 then x.1 3 + 1 else if j = 107 + x.1 3 then fN x.2 (tL T (wa0 T x s).1) 0 (x.1 0) - 1 else if j = 115 + x.1 3 then tV T (wa2 T x s).1 else if j = 123 + x.1 3 then tV T (wa4 T x s).1 else if j = 131 + x.1 3 then bIf T 144 (wa5 T x s) else x.1 j, x.2)
/-- a part -/
def prS (T : Tx) (x : St9) (s : Ps) : Ps := sMust T (decide (tK T (if tK T s.1 = 128 then thS T x s else if tK T s.1 = 131 then mkS T x s else if tK T s.1 = 137 then peS T x s else if tK T s.1 = 141 then waS T x s else sWrong T s).1 = 59)) (if tK T s.1 = 128 then thS T x s else if tK T s.1 = 131 then mkS T x s else if tK T s.1 = 137 then peS T x s else if tK T s.1 = 141 then waS T x s else sWrong T s)
def prX (T : Tx) (x : St9) (s : Ps) : St9 := if tK T s.1 = 128 then thX T x s else if tK T s.1 = 131 then mkX T x s else if tK T s.1 = 137 then peX T x s else waX T x s
/-- the whole town -/
def twP (T : Tx) : Nat → St9 → Ps → St9 × Ps
  | 0, x, s => (x, s)
  | f + 1, x, s => if tK T s.1 = 0 then (x, s) else if ¬ (prS T x s).2 = 0 then (x, prS T x s) else twP T f (prX T x s) (prS T x s)
-- what is kept
theorem sFail_f {f : Nat} {s : Ps} (h : ¬ s.2 = 0) : sFail f s = s := if_neg h
theorem sWrong_f {T : Tx} {s : Ps} (h : ¬ s.2 = 0) : sWrong T s = s := if_neg h
theorem sNext_f {s : Ps} (h : ¬ s.2 = 0) : sNext s = s := if_neg h
theorem sMust_f {T : Tx} {b : Bool} {s : Ps} (h : ¬ s.2 = 0) : sMust T b s = s := by
  unfold sMust
  split
  · exact sNext_f h
  · exact sWrong_f h
theorem sCount_f {T : Tx} {lo hi : Nat} {s : Ps} (h : ¬ s.2 = 0) : sCount T lo hi s = s := by
  unfold sCount
  split
  · split
    · exact sNext_f h
    · exact sFail_f h
  · exact sWrong_f h
theorem sOld_f {T : Tx} {W : Nat → List Nat} {b n : Nat} {s : Ps} (h : ¬ s.2 = 0) : sOld T W b n s = s := by
  unfold sOld
  split
  · split
    · exact sFail_f h
    · rfl
  · exact sWrong_f h
theorem sNew_f {T : Tx} {c lim : Nat} {x : St9} {s : Ps} (h : ¬ s.2 = 0) : sNew T c lim x s = s := if_pos h
theorem sOpt_f {T : Tx} {W : Nat → List Nat} {n had w : Nat} {s : Ps} (h : ¬ s.2 = 0) : sOpt T W n had w s = (0, s) := if_neg (fun z => h z.1)
theorem sIf_f {T : Tx} {w : Nat} {s : Ps} (h : ¬ s.2 = 0) : sIf T w s = s := if_neg (fun z => h z.1)
theorem bIf_f {T : Tx} {w : Nat} {s : Ps} (h : ¬ s.2 = 0) : bIf T w s = 0 := if_neg (fun z => h z.1)
-- what was well ahead
theorem sMust_0 {T : Tx} {b : Bool} {s : Ps} (h : (sMust T b s).2 = 0) : s.2 = 0 := by
  apply Classical.byContradiction
  intro z
  rw [sMust_f z] at h
  exact z h
theorem sCount_0 {T : Tx} {lo hi : Nat} {s : Ps} (h : (sCount T lo hi s).2 = 0) : s.2 = 0 := by
  apply Classical.byContradiction
  intro z
  rw [sCount_f z] at h
  exact z h
theorem sOld_0 {T : Tx} {W : Nat → List Nat} {b n : Nat} {s : Ps} (h : (sOld T W b n s).2 = 0) : s.2 = 0 := by
  apply Classical.byContradiction
  intro z
  rw [sOld_f z] at h
  exact z h
theorem sNext_0 {s : Ps} (h : (sNext s).2 = 0) : s.2 = 0 := by
  apply Classical.byContradiction
  intro z
  rw [sNext_f z] at h
  exact z h
theorem sOpt_0 {T : Tx} {W : Nat → List Nat} {n had w : Nat} {s : Ps} (h : (sOpt T W n had w s).2.2 = 0) : s.2 = 0 := by
  apply Classical.byContradiction
  intro z
  rw [sOpt_f z] at h
  exact z h
theorem sIf_2 {T : Tx} {w : Nat} {s : Ps} : (sIf T w s).2 = s.2 := by
  unfold sIf
  split
  · rename_i h
    exact h.1.symm
  · rfl
/-- a name that is one of those told -/
theorem fF_sp {p : Nat → Bool} : ∀ n, (fF p n = 0 ∧ ∀ k, k < n → p k = false) ∨ (∃ k, k < n ∧ fF p n = k + 1 ∧ p k = true ∧ ∀ j, j < k → p j = false)
  | 0 => Or.inl ⟨rfl, fun k h => by omega⟩
  | n + 1 => by
    rw [fF]
    rcases fF_sp (p := p) n with ⟨h1, h2⟩ | ⟨k, h1, h2, h3, h4⟩
    · rw [if_pos h1]
      cases hp : p n
      · rw [if_neg (by decide)]
        refine Or.inl ⟨rfl, fun k hk => ?_⟩
        by_cases e : k = n
        · rw [e]
          exact hp
        · exact h2 k (by omega)
      · rw [if_pos rfl]
        exact Or.inr ⟨n, by omega, rfl, hp, h2⟩
    · rw [if_neg (by omega)]
      exact Or.inr ⟨k, by omega, h2, h3, h4⟩
theorem fF_at {p : Nat → Bool} {n k : Nat} (hk : k < n) (hp : p k = true) (h : ∀ j, j < k → p j = false) : fF p n = k + 1 := by
  rcases fF_sp (p := p) n with ⟨h1, h2⟩ | ⟨k2, h1, h2, h3, h4⟩
  · rw [h2 k hk] at hp
    cases hp
  · have h5 : ¬ k < k2 := fun z => by
      rw [h4 k z] at hp
      cases hp
    have h6 : ¬ k2 < k := fun z => by
      rw [h k2 z] at h3
      cases h3
    omega
theorem fF_no {p : Nat → Bool} {n : Nat} (h : ∀ j, j < n → p j = false) : fF p n = 0 := by
  rcases fF_sp (p := p) n with ⟨h1, h2⟩ | ⟨k2, h1, h2, h3, h4⟩
  · exact h1
  · rw [h k2 h1] at h3
    cases h3
theorem fN_le (W : Nat → List Nat) (l : List Nat) (b n : Nat) : fN W l b n ≤ n := by
  unfold fN
  rcases fF_sp (p := fun k => decide (W (b + k) = l)) n with ⟨h1, _⟩ | ⟨k, h1, h2, _⟩ <;> omega
theorem sOld_ok {T : Tx} {W : Nat → List Nat} {b n : Nat} {s : Ps} (h : (sOld T W b n s).2 = 0) : sOld T W b n s = s ∧ s.2 = 0 ∧ tK T s.1 = 3 ∧ ¬ fN W (tL T s.1) b n = 0 := by
  have h0 := sOld_0 h
  unfold sOld at h ⊢
  by_cases h3 : tK T s.1 = 3
  · rw [if_pos h3] at h ⊢
    by_cases h4 : fN W (tL T s.1) b n = 0
    · rw [if_pos h4] at h
      unfold sFail at h
      rw [if_pos h0] at h
      cases h
    · rw [if_neg h4]
      exact ⟨rfl, h0, h3, h4⟩
  · rw [if_neg h3] at h
    unfold sWrong at h
    rw [if_pos h0] at h
    revert h
    show (if _ then 1 else 2) = 0 → _
    split <;> intro h <;> omega
theorem sWrong_n {T : Tx} {s : Ps} (h : s.2 = 0) : ¬ (sWrong T s).2 = 0 ∧ (sWrong T s).1 = s.1 := by
  unfold sWrong
  rw [if_pos h]
  refine ⟨?_, rfl⟩
  show ¬ (if _ then 1 else 2) = 0
  split <;> omega
theorem sMust_ok {T : Tx} {b : Bool} {s : Ps} (h : (sMust T b s).2 = 0) : s.2 = 0 ∧ b = true ∧ sMust T b s = (s.1 + 1, 0) := by
  have h0 := sMust_0 h
  unfold sMust at h ⊢
  cases b
  · exact absurd h (sWrong_n h0).1
  · refine ⟨h0, rfl, ?_⟩
    show sNext s = _
    exact if_pos h0
theorem sCount_ok {T : Tx} {lo hi : Nat} {s : Ps} (h : (sCount T lo hi s).2 = 0) : s.2 = 0 ∧ tK T s.1 = 2 ∧ (lo ≤ tV T s.1 ∧ tV T s.1 ≤ hi) ∧ sCount T lo hi s = (s.1 + 1, 0) := by
  have h0 := sCount_0 h
  unfold sCount at h ⊢
  by_cases h2 : tK T s.1 = 2
  · rw [if_pos h2] at h ⊢
    by_cases h3 : lo ≤ tV T s.1 ∧ tV T s.1 ≤ hi
    · rw [if_pos h3]
      exact ⟨h0, h2, h3, if_pos h0⟩
    · rw [if_neg h3] at h
      unfold sFail at h
      rw [if_pos h0] at h
      cases h
  · rw [if_neg h2] at h
    exact absurd h (sWrong_n h0).1
theorem sNew_ok {T : Tx} {c lim : Nat} {x : St9} {s : Ps} (h : (sNew T c lim x s).2 = 0) : s.2 = 0 ∧ (¬ x.1 c = lim) ∧ tK T (s.1 + 1) = 3 ∧ tkn x (tL T (s.1 + 1)) = false ∧ sNew T c lim x s = (s.1 + 2, 0) := by
  unfold sNew at h ⊢
  by_cases h0 : s.2 = 0
  · rw [if_neg (fun z => z h0)] at h ⊢
    by_cases h1 : x.1 c = lim
    · rw [if_pos h1] at h
      cases h
    · rw [if_neg h1] at h ⊢
      by_cases h2 : tK T (s.1 + 1) = 3
      · rw [if_neg (fun z => z h2)] at h ⊢
        cases h3 : tkn x (tL T (s.1 + 1))
        · rw [if_neg (by decide)]
          exact ⟨h0, h1, h2, rfl, rfl⟩
        · rw [h3, if_pos rfl] at h
          cases h
      · rw [if_pos h2] at h
        exact absurd h (sWrong_n rfl).1
  · rw [if_pos h0] at h
    exact absurd h h0
