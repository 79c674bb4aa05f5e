-- READING: THE MATHEMATICS OF A LAW
/-- how many steps, how many cases, the cells (21 .., 139 .., 147 .., 155 ..) -/
abbrev Lq : Type := Nat × Nat × Td
abbrev Lg : Type := Lq → Ps → Lq × Ps
def lSt (a b : Nat) (y : Lq) (s : Ps) : Lq := if s.2 = 0 then (y.1 + 1, y.2.1, fun j => if j = 155 + 2 * y.1 then a else if j = 155 + 2 * y.1 + 1 then b else y.2.2 j) else y
def lcM (k : Nat) : Bool := decide (k = 60 ∨ k = 62 ∨ k = 61)
def lcS (T : Tx) (x : St9) (s : Ps) : Ps := if tK T s.1 = 149 then sNext (sOld T x.2 0 (x.1 0) (s.1 + 1, 0)) else if tK T s.1 = 150 then sCount T 0 6 (sMust T (lcM (tK T (s.1 + 1))) (s.1 + 1, 0)) else (s.1 + 1, 0)
def lcA (T : Tx) (s : Ps) : Nat := if tK T s.1 = 149 then 3 else if tK T s.1 = 150 then (if tK T (s.1 + 1) = 60 then 4 else if tK T (s.1 + 1) = 62 then 5 else 6) else if tK T s.1 = 146 then 0 else if tK T s.1 = 147 then 1 else 2
def lcB (T : Tx) (x : St9) (s : Ps) : Nat := if tK T s.1 = 149 then fN x.2 (tL T (s.1 + 1)) 0 (x.1 0) - 1 else if tK T s.1 = 150 then tV T (s.1 + 2) else 0
def lcY (T : Tx) (x : St9) (y : Lq) (s : Ps) : Lq := lSt (lcA T s) (lcB T x s) (y.1, y.2.1 + 1, y.2.2) (lcS T x s)
def isCs (k : Nat) : Bool := decide (146 ≤ k ∧ k ≤ 150)
def lLp (T : Tx) (k op : Nat) (g : Lg) : Nat → Lg
  | 0 => fun y s => (y, s)
  | f + 1 => fun y s => if s.2 = 0 ∧ tK T s.1 = k then lLp T k op g f (lSt op 0 (g y (s.1 + 1, 0)).1 (g y (s.1 + 1, 0)).2) (g y (s.1 + 1, 0)).2 else (y, s)
def lBo (T : Tx) (g : Lg) : Lg := fun y s => lLp T 152 8 g 801 (g y s).1 (g y s).2
def lEi (T : Tx) (g : Lg) : Lg := fun y s => lLp T 151 9 (lBo T g) 801 (lBo T g y s).1 (lBo T g y s).2
def lNt (g : Lg) : Lg := fun y s => (lSt 7 0 (g y (s.1 + 1, 0)).1 (g y (s.1 + 1, 0)).2, (g y (s.1 + 1, 0)).2)
def lPa (T : Tx) (g : Lg) : Lg := fun y s => ((lEi T g y (s.1 + 1, 0)).1, sMust T (decide (tK T (lEi T g y (s.1 + 1, 0)).2.1 = 41)) (lEi T g y (s.1 + 1, 0)).2)
def l1B (T : Tx) (y : Lq) (s : Ps) : Ps := if ¬ s.2 = 0 then s else if tK T s.1 = 153 ∨ tK T s.1 = 40 then s else if isCs (tK T s.1) = true then (if y.2.1 = 20 then sFail 6 s else s) else sWrong T s
def lOn (T : Tx) (x : St9) : Nat → Lg
  | 0 => fun y s => (y, sFail 7 (l1B T y s))
  | m + 1 => fun y s => if ¬ (l1B T y s).2 = 0 then (y, l1B T y s) else if tK T s.1 = 153 then lNt (lOn T x m) y s else if tK T s.1 = 40 then lPa T (lOn T x m) y s else (lcY T x y s, lcS T x s)
/-- the LAW of one THING: its number, the token behind "stays", the cells with its beginning -/
def laK (T : Tx) (x : St9) (s : Ps) : Nat := fN x.2 (tL T s.1) 0 (x.1 0) - 1
def laH (T : Tx) (x : St9) (y : Lq) (s : Ps) : Ps := sMust T (decide (tK T (sNext (if (sOld T x.2 0 (x.1 0) s).2 = 0 ∧ y.2.2 (21 + laK T x s) = 1 then sFail 5 (sOld T x.2 0 (x.1 0) s) else sOld T x.2 0 (x.1 0) s)).1 = 145)) (sNext (if (sOld T x.2 0 (x.1 0) s).2 = 0 ∧ y.2.2 (21 + laK T x s) = 1 then sFail 5 (sOld T x.2 0 (x.1 0) s) else sOld T x.2 0 (x.1 0) s))
def laB (k : Nat) (y : Lq) : Lq := (y.1, y.2.1, fun j => if j = 21 + k then 1 else if j = 139 + k then y.1 else y.2.2 j)
def laE (k : Nat) (y : Lq) : Lq := (y.1, y.2.1, fun j => if j = 147 + k then y.1 else y.2.2 j)
def laR1 (T : Tx) (x : St9) (y : Lq) (s : Ps) : Lq × Ps := lEi T (lOn T x 6) (laB (laK T x s) y) (laH T x y s)
def laS (T : Tx) (x : St9) (y : Lq) (s : Ps) : Ps := prE T (laR1 T x y s).2
def laP (T : Tx) (x : St9) : Nat → Nat → Lq → Ps → Nat × Lq × Ps
  | 0, c, y, s => (c, y, s)
  | f + 1, c, y, s => if tK T s.1 = 0 then (c, y, s) else if ¬ (laH T x y s).2 = 0 then (c, y, laH T x y s) else if ¬ (laS T x y s).2 = 0 then (c + 1, laE (laK T x s) (laR1 T x y s).1, laS T x y s) else laP T x f (c + 1) (laE (laK T x s) (laR1 T x y s).1) (laS T x y s)
def laR (T : Tx) (x : St9) (g : Td) : Nat × Lq × Ps := laP T x 801 0 (0, 0, fun j => if 21 ≤ j ∧ j < 29 then 0 else g j) (0, 0)
theorem lSt_f {a b : Nat} {y : Lq} {s : Ps} (h : ¬ s.2 = 0) : lSt a b y s = y := if_neg h
theorem lSt_t {a b : Nat} {y : Lq} {s : Ps} (h : s.2 = 0) : lSt a b y s = (y.1 + 1, y.2.1, fun j => if j = 155 + 2 * y.1 then a else if j = 155 + 2 * y.1 + 1 then b else y.2.2 j) := if_pos h
theorem lLp_f {T : Tx} {k op : Nat} {g : Lg} {f : Nat} {y : Lq} {s : Ps} (h : ¬ s.2 = 0) : lLp T k op g f y s = (y, s) := by
  cases f with
  | zero => rfl
  | succ f =>
    rw [lLp]
    exact if_neg (fun z => h z.1)
theorem lLp_n {T : Tx} {k op : Nat} {g : Lg} {f : Nat} {y : Lq} {s : Ps} (h : ¬ tK T s.1 = k) : lLp T k op g f y s = (y, s) := by
  cases f with
  | zero => rfl
  | succ f =>
    rw [lLp]
    exact if_neg (fun z => h z.2)
theorem lLp_u {T : Tx} {k op : Nat} {g : Lg} {f : Nat} {y : Lq} {s : Ps} : lLp T k op g (f + 1) y s = if s.2 = 0 ∧ tK T s.1 = k then lLp T k op g f (lSt op 0 (g y (s.1 + 1, 0)).1 (g y (s.1 + 1, 0)).2) (g y (s.1 + 1, 0)).2 else (y, s) := rfl
theorem lBo_f {T : Tx} {g : Lg} {y : Lq} {s : Ps} (hg : g y s = (y, s)) (h : ¬ s.2 = 0) : lBo T g y s = (y, s) := by
  unfold lBo
  rw [hg]
  exact lLp_f h
theorem lEi_f {T : Tx} {g : Lg} {y : Lq} {s : Ps} (hg : g y s = (y, s)) (h : ¬ s.2 = 0) : lEi T g y s = (y, s) := by
  unfold lEi
  rw [lBo_f hg h]
  exact lLp_f h
theorem l1B_f {T : Tx} {y : Lq} {s : Ps} (h : ¬ s.2 = 0) : l1B T y s = s := if_pos h
theorem lOn_f {T : Tx} {x : St9} {y : Lq} {s : Ps} (h : ¬ s.2 = 0) : ∀ m, lOn T x m y s = (y, s)
  | 0 => by
    show (y, sFail 7 (l1B T y s)) = _
    rw [l1B_f h, sFail_f h]
  | m + 1 => by
    show (if ¬ (l1B T y s).2 = 0 then (y, l1B T y s) else _) = _
    rw [l1B_f h]
    exact if_pos h
/-- a step of a row of steps can be gone through -/
def lok (e : Td) (i0 n : Nat) : Prop := e (155 + 2 * (i0 + n)) ≤ 9 ∧ (e (155 + 2 * (i0 + n)) < 7 → nDp e i0 n < 13) ∧ (e (155 + 2 * (i0 + n)) = 7 → 1 ≤ nDp e i0 n) ∧ (8 ≤ e (155 + 2 * (i0 + n)) → 2 ≤ nDp e i0 n) ∧ (e (155 + 2 * (i0 + n)) = 3 → e (155 + 2 * (i0 + n) + 1) < 8) ∧ (4 ≤ e (155 + 2 * (i0 + n)) → e (155 + 2 * (i0 + n)) ≤ 6 → e (155 + 2 * (i0 + n) + 1) ≤ 6)
theorem nDp_cg9 {e e' : Td} {i0 : Nat} : ∀ {n : Nat}, (∀ j, 155 + 2 * i0 ≤ j → j < 155 + 2 * (i0 + n) → e' j = e j) → nDp e' i0 n = nDp e i0 n
  | 0, _ => rfl
  | n + 1, h => by
    rw [nDp, nDp, h (155 + 2 * (i0 + n)) (by omega) (by omega), nDp_cg9 (n := n) (fun j h1 h2 => h j h1 (by omega))]
theorem lok_cg {e e' : Td} {i0 n : Nat} (h : ∀ j, 155 + 2 * i0 ≤ j → j < 155 + 2 * (i0 + n + 1) → e' j = e j) (p : lok e i0 n) : lok e' i0 n := by
  unfold lok at p ⊢
  rw [h (155 + 2 * (i0 + n)) (by omega) (by omega), h (155 + 2 * (i0 + n) + 1) (by omega) (by omega), nDp_cg9 (e := e) (e' := e') (n := n) (fun j h1 h2 => h j h1 (by omega))]
  exact p
/-- what a piece of a law adds: places, steps, the depth behind it -/
def lF (T : Tx) (i0 c D D' : Nat) (y : Lq) (s : Ps) (r : Lq × Ps) : Prop := y.1 + c ≤ r.1.1 ∧ 2 * r.1.1 + tp T s.1 ≤ 2 * y.1 + tp T r.2.1 ∧ s.1 + c ≤ r.2.1 ∧ (y.2.1 ≤ 20 → r.1.2.1 ≤ 20) ∧ (∀ j, ¬ (155 + 2 * y.1 ≤ j ∧ j < 155 + 2 * r.1.1) → r.1.2.2 j = y.2.2 j) ∧ ((∀ n, n < y.1 - i0 → lok y.2.2 i0 n) → nDp y.2.2 i0 (y.1 - i0) = D → (∀ n, n < r.1.1 - i0 → lok r.1.2.2 i0 n) ∧ nDp r.1.2.2 i0 (r.1.1 - i0) = D')
theorem lF_tr {T : Tx} {i0 c c' D D' E : Nat} {y : Lq} {s : Ps} {r q : Lq × Ps} (h : lF T i0 c D D' y s r) (g : lF T i0 c' D' E r.1 r.2 q) : lF T i0 (c + c') D E y s q := by
  obtain ⟨h1, h2, h3, h4, h5, h6⟩ := h
  obtain ⟨g1, g2, g3, g4, g5, g6⟩ := g
  refine ⟨by omega, by omega, by omega, fun z => g4 (h4 z), fun j hj => (g5 j (by omega)).trans (h5 j (by omega)), fun z1 z2 => ?_⟩
  have w := h6 z1 z2
  exact g6 w.1 w.2
theorem lF_mono {T : Tx} {i0 c D D' : Nat} {y : Lq} {s : Ps} {r : Lq × Ps} (h : lF T i0 c D D' y s r) : lF T i0 0 D D' y s r := by
  obtain ⟨h1, h2, h3, h4⟩ := h
  exact ⟨by omega, h2, by omega, h4⟩
theorem lF_rf {T : Tx} {i0 D : Nat} {y : Lq} {s : Ps} : lF T i0 0 D D y s (y, s) := ⟨Nat.le_refl _, Nat.le_refl _, Nat.le_refl _, id, fun _ _ => rfl, fun a b => ⟨a, b⟩⟩
theorem tpq1 {T : Tx} (tw : Tw T) {i : Nat} : tp T i ≤ tA T i ∧ tA T i ≤ tp T (i + 1) := by
  have h := tA_sp tw i
  refine ⟨h.1, ?_⟩
  rw [tp_s]
  by_cases e : T.2 ≤ tA T i
  · rw [xE_z e]
    exact Nat.le_refl _
  · have := (xE_b tw (s := tA T i) (by omega)).1
    omega
theorem RW_2 : ∀ k, k < 28 → 2 ≤ (RW.getD k []).length := by decide +kernel
theorem tpq2 {T : Tx} (tw : Tw T) {i : Nat} (h : 128 ≤ tK T i) : tp T i + 2 ≤ tp T (i + 1) := by
  have hv := tL_v tw (Or.inr h)
  have hp := (tpq1 tw (i := i)).1
  have hi := tK_i tw (i := i) (by omega)
  have hb := rsv_b (tL T i)
  obtain ⟨k, hk⟩ : ∃ k, tK T i = 128 + k := ⟨tK T i - 128, by omega⟩
  have h28 : k < 28 := by
    rw [← hv.2.2.1] at hb
    omega
  have hl : tL T i = RW.getD k [] := (rsv_k h28).mp (hv.2.2.1.symm.trans hk)
  have h2 := RW_2 k h28
  rw [← hl] at h2
  have hlen : (tL T i).length = xL T (tA T i) - tA T i := wl_len T _ _
  have he : tp T (i + 1) = xL T (tA T i) := by
    rw [tp_s]
    unfold xE
    rw [if_neg (by omega), if_pos hv.2.2.2]
  rw [he]
  omega
/-- a step that joins behind a token of two bytes at least -/
theorem lF_sx {T : Tx} (tw : Tw T) {i0 c D E E' a : Nat} {y : Lq} {s : Ps} {r : Lq × Ps} (hk : 128 ≤ tK T s.1) (hi : i0 ≤ y.1) (h : lF T i0 c D E y (s.1 + 1, 0) r) (h0 : r.2.2 = 0) (ha : (a = 7 ∧ 1 ≤ E ∧ E' = E) ∨ ((a = 8 ∨ a = 9) ∧ 2 ≤ E ∧ E' = E - 1)) : lF T i0 (c + 1) D E' y s (lSt a 0 r.1 r.2, r.2) := by
  obtain ⟨h1, h2, h3, h4, h5, h6⟩ := h
  have hp := tpq2 tw hk
  rw [lSt_t h0]
  dsimp only at h2 h3 ⊢
  refine ⟨by dsimp only; omega, by dsimp only; omega, by dsimp only; omega, h4, fun j hj => ?_, fun z1 z2 => ?_⟩
  · dsimp only at hj ⊢
    rw [if_neg (by omega), if_neg (by omega)]
    exact h5 j (by omega)
  · dsimp only
    have w := h6 z1 z2
    have cg : ∀ j, 155 + 2 * i0 ≤ j → j < 155 + 2 * r.1.1 → (fun j => if j = 155 + 2 * r.1.1 then a else if j = 155 + 2 * r.1.1 + 1 then 0 else r.1.2.2 j) j = r.1.2.2 j := fun j j1 j2 => by
      dsimp only
      rw [if_neg (by omega), if_neg (by omega)]
    generalize hE9 : (fun j => if j = 155 + 2 * r.1.1 then a else if j = 155 + 2 * r.1.1 + 1 then 0 else r.1.2.2 j) = e at cg ⊢
    have ea : e (155 + 2 * r.1.1) = a := by
      rw [← hE9]
      exact if_pos rfl
    have en : r.1.1 + 1 - i0 = (r.1.1 - i0) + 1 := by omega
    have e0 : i0 + (r.1.1 - i0) = r.1.1 := by omega
    have ed : nDp e i0 (r.1.1 - i0) = E := (nDp_cg9 (fun j j1 j2 => cg j j1 (by omega))).trans w.2
    rw [en]
    constructor
    · intro n hn
      by_cases e9 : n = r.1.1 - i0
      · subst e9
        unfold lok
        rw [e0, ea, ed]
        refine ⟨by omega, fun z => by omega, fun z => by omega, fun z => by omega, fun z => by omega, fun z1 z2 => by omega⟩
      · exact lok_cg (fun j j1 j2 => cg j j1 (by omega)) (w.1 n (by omega))
    · rw [nDp, e0, ea, ed]
      rcases ha with q | q
      · rw [if_neg (by omega), if_pos q.1]
        exact q.2.2.symm
      · rw [if_neg (by omega), if_neg (by omega)]
        exact q.2.2.symm
theorem lcM_t {k : Nat} : lcM k = true ↔ (k = 60 ∨ k = 62 ∨ k = 61) := decide_eq_true_iff
/-- a case -/
theorem lF_cs {T : Tx} {x : St9} (tw : Tw T) (hx : x.1 0 ≤ 8) {i0 D : Nat} {y : Lq} {s : Ps} (hk : isCs (tK T s.1) = true) (hi : i0 ≤ y.1) (hc : ¬ y.2.1 = 20) (hD : D < 13) (h0 : (lcS T x s).2 = 0) : lF T i0 1 D (D + 1) y s (lcY T x y s, lcS T x s) := by
  have hk9 : 146 ≤ tK T s.1 ∧ tK T s.1 ≤ 150 := of_decide_eq_true hk
  have hp := tpq2 tw (i := s.1) (by omega)
  have hA : lcA T s ≤ 6 ∧ (lcA T s = 3 → lcB T x s < 8) ∧ (4 ≤ lcA T s → lcB T x s ≤ 6) ∧ s.1 + 1 ≤ (lcS T x s).1 ∧ tp T (s.1 + 1) ≤ tp T (lcS T x s).1 := by
    have m1 := tpq1 tw (i := s.1 + 1)
    have m2 := tpq1 tw (i := s.1 + 1 + 1)
    unfold lcS at h0
    unfold lcA lcB lcS
    by_cases k1 : tK T s.1 = 149
    · rw [if_pos k1] at h0
      rw [if_pos k1, if_pos k1, if_pos k1]
      have o1 := sOld_ok (sNext_0 h0)
      have hf := fN_le x.2 (tL T (s.1 + 1)) 0 (x.1 0)
      have e1 : sNext (sOld T x.2 0 (x.1 0) (s.1 + 1, 0)) = (s.1 + 1 + 1, 0) := by
        rw [o1.1]
        rfl
      rw [e1]
      have o4 : ¬ fN x.2 (tL T (s.1 + 1)) 0 (x.1 0) = 0 := o1.2.2.2
      exact ⟨by decide, fun _ => by omega, fun z => absurd z (by decide), by dsimp only; omega, by dsimp only; omega⟩
    · rw [if_neg k1] at h0
      rw [if_neg k1, if_neg k1, if_neg k1]
      by_cases k2 : tK T s.1 = 150
      · rw [if_pos k2] at h0
        rw [if_pos k2, if_pos k2, if_pos k2]
        have o1 := sCount_ok h0
        have o2 := sMust_ok o1.1
        rw [o2.2.2] at o1
        have o3 : sCount T 0 6 (s.1 + 1 + 1, 0) = (s.1 + 1 + 1 + 1, 0) := o1.2.2.2
        have o4 : 0 ≤ tV T (s.1 + 2) ∧ tV T (s.1 + 2) ≤ 6 := o1.2.2.1
        rw [o2.2.2, o3]
        have h46 : 4 ≤ (if tK T (s.1 + 1) = 60 then 4 else if tK T (s.1 + 1) = 62 then 5 else 6 : Nat) ∧ (if tK T (s.1 + 1) = 60 then 4 else if tK T (s.1 + 1) = 62 then 5 else 6 : Nat) ≤ 6 := by
          split
          · omega
          · split <;> omega
        exact ⟨h46.2, fun z => by omega, fun _ => o4.2, by dsimp only; omega, by dsimp only; omega⟩
      · rw [if_neg k2, if_neg k2, if_neg k2]
        have h3 : (if tK T s.1 = 146 then 0 else if tK T s.1 = 147 then 1 else 2 : Nat) ≤ 2 := by
          split
          · omega
          · split <;> omega
        exact ⟨by omega, fun z => by omega, fun z => by omega, Nat.le_refl _, Nat.le_refl _⟩
  obtain ⟨a1, a2, a3, a4, a5⟩ := hA
  unfold lcY
  rw [lSt_t h0]
  refine ⟨Nat.le_refl _, by dsimp only; omega, a4, fun z => by dsimp only; omega, fun j hj => ?_, fun z1 z2 => ?_⟩
  · dsimp only at hj ⊢
    rw [if_neg (by omega), if_neg (by omega)]
  · dsimp only
    have cg : ∀ j, 155 + 2 * i0 ≤ j → j < 155 + 2 * y.1 → (fun j => if j = 155 + 2 * y.1 then lcA T s else if j = 155 + 2 * y.1 + 1 then lcB T x s else y.2.2 j) j = y.2.2 j := fun j j1 j2 => by
      dsimp only
      rw [if_neg (by omega), if_neg (by omega)]
    generalize hE9 : (fun j => if j = 155 + 2 * y.1 then lcA T s else if j = 155 + 2 * y.1 + 1 then lcB T x s else y.2.2 j) = e at cg ⊢
    have ea : e (155 + 2 * y.1) = lcA T s := by
      rw [← hE9]
      exact if_pos rfl
    have eb : e (155 + 2 * y.1 + 1) = lcB T x s := by
      rw [← hE9]
      dsimp only
      rw [if_neg (by omega), if_pos rfl]
    have en : y.1 + 1 - i0 = (y.1 - i0) + 1 := by omega
    have e0 : i0 + (y.1 - i0) = y.1 := by omega
    have ed : nDp e i0 (y.1 - i0) = D := (nDp_cg9 (fun j j1 j2 => cg j j1 (by omega))).trans z2
    rw [en]
    constructor
    · intro n hn
      by_cases e9 : n = y.1 - i0
      · subst e9
        unfold lok
        rw [e0, ea, eb, ed]
        exact ⟨by omega, fun z => hD, fun z => by omega, fun z => by omega, a2, fun z1 z2 => a3 z1⟩
      · exact lok_cg (fun j j1 j2 => cg j j1 (by omega)) (z1 n (by omega))
    · rw [nDp, e0, ea, ed, if_pos (by omega)]
/-- what a function of the law does -/
def lGd (T : Tx) (i0 D : Nat) (g : Lg) : Prop := (∀ y s, ¬ s.2 = 0 → g y s = (y, s)) ∧ ∀ y s, s.2 = 0 → i0 ≤ y.1 → y.2.1 ≤ 20 → (g y s).2.2 = 0 → lF T i0 1 D (D + 1) y s (g y s)
theorem lLp_w {T : Tx} (tw : Tw T) {k op : Nat} (hop : op = 8 ∨ op = 9) (hk : 128 ≤ k) {g : Lg} {i0 D : Nat} (hD : 1 ≤ D) (hg : lGd T i0 D g) : ∀ f y s, s.2 = 0 → i0 ≤ y.1 → y.2.1 ≤ 20 → (lLp T k op g f y s).2.2 = 0 → lF T i0 0 D D y s (lLp T k op g f y s)
  | 0, y, s, _, _, _, _ => lF_rf
  | f + 1, y, s, h0, hi, hc, hr => by
    rw [lLp_u] at hr ⊢
    by_cases e : s.2 = 0 ∧ tK T s.1 = k
    · rw [if_pos e] at hr ⊢
      have q0 : (g y (s.1 + 1, 0)).2.2 = 0 := Classical.byContradiction (fun z => by
        rw [lLp_f z] at hr
        exact z hr)
      have h1 := hg.2 y (s.1 + 1, 0) rfl hi hc q0
      have h2 := lF_sx (E' := D) (a := op) tw (s := s) (by omega) hi h1 q0 (Or.inr ⟨hop, by omega, by omega⟩)
      have h3 := lLp_w tw hop hk hD hg f _ _ q0 (Nat.le_trans hi (Nat.le_trans (Nat.le_add_right _ _) h2.1)) (h2.2.2.2.1 hc) hr
      exact lF_mono (lF_tr h2 h3)
    · rw [if_neg e]
      exact lF_rf
theorem lBo_w {T : Tx} (tw : Tw T) {g : Lg} {i0 D : Nat} (hg : lGd T i0 D g) (hg1 : lGd T i0 (D + 1) g) : lGd T i0 D (lBo T g) := by
  refine ⟨fun y s h => lBo_f (hg.1 y s h) h, fun y s h0 hi hc hr => ?_⟩
  unfold lBo at hr ⊢
  have q0 : (g y s).2.2 = 0 := Classical.byContradiction (fun z => by
    rw [lLp_f z] at hr
    exact z hr)
  have h1 := hg.2 y s h0 hi hc q0
  exact lF_tr h1 (lLp_w tw (Or.inl rfl) (by decide) (Nat.le_add_left _ _) hg1 801 _ _ q0 (Nat.le_trans hi (Nat.le_trans (Nat.le_add_right _ _) h1.1)) (h1.2.2.2.1 hc) hr)
theorem lEi_w {T : Tx} (tw : Tw T) {g : Lg} {i0 D : Nat} (hg : lGd T i0 D g) (hg1 : lGd T i0 (D + 1) g) (hg2 : lGd T i0 (D + 2) g) : lGd T i0 D (lEi T g) := by
  refine ⟨fun y s h => lEi_f (hg.1 y s h) h, fun y s h0 hi hc hr => ?_⟩
  unfold lEi at hr ⊢
  have q0 : (lBo T g y s).2.2 = 0 := Classical.byContradiction (fun z => by
    rw [lLp_f z] at hr
    exact z hr)
  have h1 := (lBo_w tw hg hg1).2 y s h0 hi hc q0
  exact lF_tr h1 (lLp_w tw (Or.inr rfl) (by decide) (Nat.le_add_left _ _) (lBo_w tw hg1 hg2) 801 _ _ q0 (Nat.le_trans hi (Nat.le_trans (Nat.le_add_right _ _) h1.1)) (h1.2.2.2.1 hc) hr)
theorem l1B_ok {T : Tx} {y : Lq} {s : Ps} (h : (l1B T y s).2 = 0) : l1B T y s = s ∧ s.2 = 0 ∧ (tK T s.1 = 153 ∨ tK T s.1 = 40 ∨ (isCs (tK T s.1) = true ∧ ¬ y.2.1 = 20)) := by
  unfold l1B at h ⊢
  by_cases h0 : s.2 = 0
  · rw [if_neg (fun z => z h0)] at h ⊢
    by_cases h1 : tK T s.1 = 153 ∨ tK T s.1 = 40
    · rw [if_pos h1]
      exact ⟨rfl, h0, by omega⟩
    · rw [if_neg h1] at h ⊢
      by_cases h2 : isCs (tK T s.1) = true
      · rw [if_pos h2] at h ⊢
        by_cases h3 : y.2.1 = 20
        · rw [if_pos h3] at h
          exact absurd h (sFail_n (by decide) h0)
        · rw [if_neg h3]
          exact ⟨rfl, h0, Or.inr (Or.inr ⟨h2, h3⟩)⟩
      · rw [if_neg h2] at h
        exact absurd h (sWrong_n h0).1
  · rw [if_pos h0] at h
    exact absurd h h0
theorem lOn_w {T : Tx} {x : St9} (tw : Tw T) (hx : x.1 0 ≤ 8) {i0 : Nat} : ∀ m, m ≤ 6 → ∀ D, D + 2 * m ≤ 14 → lGd T i0 D (lOn T x m)
  | 0, _, D, hD => by
    refine ⟨fun y s h => lOn_f h 0, fun y s h0 hi hc hr => ?_⟩
    exfalso
    have hr2 : (sFail 7 (l1B T y s)).2 = 0 := hr
    by_cases z : (l1B T y s).2 = 0
    · exact sFail_n (by decide) z hr2
    · rw [sFail_f z] at hr2
      exact z hr2
  | m + 1, hm, D, hD => by
    refine ⟨fun y s h => lOn_f h (m + 1), fun y s h0 hi hc hr => ?_⟩
    have un : lOn T x (m + 1) y s = if ¬ (l1B T y s).2 = 0 then (y, l1B T y s) else if tK T s.1 = 153 then lNt (lOn T x m) y s else if tK T s.1 = 40 then lPa T (lOn T x m) y s else (lcY T x y s, lcS T x s) := rfl
    rw [un] at hr ⊢
    by_cases z : (l1B T y s).2 = 0
    · have ok := l1B_ok z
      rw [if_neg (fun q => q z)] at hr ⊢
      by_cases k1 : tK T s.1 = 153
      · rw [if_pos k1] at hr ⊢
        have q0 : (lOn T x m y (s.1 + 1, 0)).2.2 = 0 := hr
        have h1 := (lOn_w tw hx m (by omega) D (by omega)).2 y (s.1 + 1, 0) rfl hi hc q0
        have h2 := lF_sx (E' := D + 1) (a := 7) tw (s := s) (by omega) hi h1 q0 (Or.inl ⟨rfl, by omega, rfl⟩)
        obtain ⟨p1, p2, p3, p4⟩ := h2
        exact ⟨Nat.le_of_succ_le p1, p2, Nat.le_of_succ_le p3, p4⟩
      · rw [if_neg k1] at hr ⊢
        by_cases k2 : tK T s.1 = 40
        · rw [if_pos k2] at hr ⊢
          have o1 := sMust_ok (show (sMust T (decide (tK T (lEi T (lOn T x m) y (s.1 + 1, 0)).2.1 = 41)) (lEi T (lOn T x m) y (s.1 + 1, 0)).2).2 = 0 from hr)
          have ih := fun E hE => lOn_w (i0 := i0) tw hx m (by omega) E hE
          have h1 := (lEi_w tw (ih D (by omega)) (ih (D + 1) (by omega)) (ih (D + 2) (by omega))).2 y (s.1 + 1, 0) rfl hi hc o1.1
          have e1 : lPa T (lOn T x m) y s = ((lEi T (lOn T x m) y (s.1 + 1, 0)).1, ((lEi T (lOn T x m) y (s.1 + 1, 0)).2.1 + 1, 0)) := Prod.ext rfl o1.2.2
          rw [e1]
          have t1 := tpq1 tw (i := s.1)
          have t2 := tpq1 tw (i := (lEi T (lOn T x m) y (s.1 + 1, 0)).2.1)
          obtain ⟨p1, p2, p3, p4⟩ := h1
          dsimp only at p2 p3
          exact ⟨p1, by dsimp only; omega, by dsimp only; omega, p4⟩
        · rw [if_neg k2] at hr ⊢
          have c9 : isCs (tK T s.1) = true ∧ ¬ y.2.1 = 20 := by
            rcases ok.2.2 with q | q | q
            · exact absurd q k1
            · exact absurd q k2
            · exact q
          exact lF_cs tw hx c9.1 hi c9.2 (by omega) hr
    · rw [if_pos z] at hr
      exact absurd hr z
