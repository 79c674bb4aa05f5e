-- READING: THE MATHEMATICS OF A PLAN
/-- jobs: how many, and four numbers of each at 5 j, 5 j + 1, .. -/
abbrev Pl9 : Type := Nat × (Nat → Nat)
/-- what a word says is to be done: 4 where nothing -/
def kO (k : Nat) : Nat := if k = 142 then 0 else if k = 129 then 1 else if k = 155 then 2 else if k = 130 then 3 else 4
def pTold (z : Pl9) (h n : Nat) : Bool := decide (∃ j, j < n ∧ z.2 (5 * j) = h)
def jb0 (T : Tx) (z : Pl9) (s : Ps) : Ps := if ¬ s.2 = 0 then s else if kO (tK T s.1) = 4 then sWrong T s else if ¬ kO (tK T s.1) = 0 ∧ pTold z (kO (tK T s.1)) z.1 = true then sFail 5 s else if z.1 = 24 then sFail 6 s else s
def ma1 (T : Tx) (z : Pl9) (s : Ps) : Ps := sCount T 0 23 (sNext (jb0 T z s))
def ma2 (T : Tx) (x : St9) (z : Pl9) (s : Ps) : Ps := sNext (sOld T x.2 8 (x.1 1) (ma1 T z s))
def ma3 (T : Tx) (x : St9) (z : Pl9) (s : Ps) : Ps := sMust T (decide (tK T (ma2 T x z s).1 = 154)) (ma2 T x z s)
def ma4 (T : Tx) (x : St9) (z : Pl9) (s : Ps) : Nat × Ps := if (ma3 T x z s).2 = 0 then sRw T x.2 20 (x.1 2) 0 0 (801 - (ma3 T x z s).1) 0 (ma3 T x z s) else (0, ma3 T x z s)
def ke1 (T : Tx) (x : St9) (z : Pl9) (s : Ps) : Ps := sNext (sOld T x.2 0 (x.1 0) (sNext (jb0 T z s)))
def jbS (T : Tx) (x : St9) (z : Pl9) (s : Ps) : Ps := if kO (tK T s.1) = 0 then (ma4 T x z s).2 else ke1 T x z s
def jbX (T : Tx) (x : St9) (z : Pl9) (s : Ps) : Pl9 := (z.1 + 1, fun j => if j = 5 * z.1 then kO (tK T s.1) else if j = 5 * z.1 + 1 then tV T (s.1 + 1) else if j = 5 * z.1 + 2 then (if kO (tK T s.1) = 0 then fN x.2 (tL T (s.1 + 2)) 8 (x.1 1) - 1 else fN x.2 (tL T (s.1 + 1)) 0 (x.1 0) - 1) else if j = 5 * z.1 + 3 then (if kO (tK T s.1) = 0 then (ma4 T x z s).1 else 0) else z.2 j)
/-- a job with the sign that ends it -/
def joS (T : Tx) (x : St9) (z : Pl9) (s : Ps) : Ps := prE T (jbS T x z s)
def plP (T : Tx) (x : St9) : Nat → Pl9 → Ps → Pl9 × Ps
  | 0, z, s => (z, s)
  | f + 1, z, s => if tK T s.1 = 0 then (z, s) else if ¬ (joS T x z s).2 = 0 then (z, joS T x z s) else plP T x f (jbX T x z s) (joS T x z s)
def plR (T : Tx) (x : St9) : Pl9 × Ps := plP T x 801 (0, fun _ => 0) (0, 0)
theorem plP_end {T : Tx} {x : St9} {z : Pl9} {s : Ps} (h : tK T s.1 = 0) : ∀ f, plP T x f z s = (z, s)
  | 0 => rfl
  | f + 1 => by rw [plP, if_pos h]
theorem pTold_n {z : Pl9} {h n : Nat} (hp : ∀ j, j < n → ¬ z.2 (5 * j) = h) : pTold z h n = false := decide_eq_false (fun ⟨j, h1, h2⟩ => hp j h1 h2)
theorem pTold_y {z : Pl9} {h n j : Nat} (hj : j < n) (hp : z.2 (5 * j) = h) : pTold z h n = true := decide_eq_true ⟨j, hj, hp⟩
/-- the jobs as the developers hold them -/
def X_jb (pl : Nat) (z : Pl9) (M : Mem) : Prop := M.1 pl 1 = nI z.1 ∧ z.1 ≤ 24 ∧ ∀ j, j < z.1 → M.1 (pl + 1) j = nI (z.2 (5 * j)) ∧ (z.2 (5 * j) = 0 → M.1 (pl + 2) j = nI (z.2 (5 * j + 1))) ∧ M.1 (pl + 3) j = nI (z.2 (5 * j + 2)) ∧ M.1 (pl + 4) j = nI (z.2 (5 * j + 3))
theorem kO_le (k : Nat) : kO k ≤ 4 := by
  unfold kO
  split
  · omega
  · split
    · omega
    · split
      · omega
      · split <;> omega
