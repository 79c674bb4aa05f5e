-- TEXTS: THE MATHEMATICS OF TOKENS
abbrev Tx : Type := (Nat → Nat) × Nat
def rn (P : Nat → Bool) : Nat → Nat → Nat
  | 0, p => p
  | f + 1, p => if P p = true then rn P f (p + 1) else p
theorem rn_eq {P : Nat → Bool} {q : Nat} : ∀ {f p : Nat}, p ≤ q → (∀ i, p ≤ i → i < q → P i = true) → P q = false → q ≤ p + f → rn P f p = q
  | 0, p, h1, _, _, h4 => by
    rw [rn]
    omega
  | f + 1, p, h1, h2, h3, h4 => by
    rw [rn]
    by_cases e : p = q
    · subst e
      rw [if_neg (by rw [h3]; decide)]
    · rw [if_pos (h2 p (Nat.le_refl _) (by omega))]
      exact rn_eq (by omega) (fun i a b => h2 i (by omega) b) h3 (by omega)
theorem rn_sp {P : Nat → Bool} {n : Nat} (hz : ∀ i, n ≤ i → P i = false) : ∀ (f p : Nat), p ≤ n → n ≤ p + f → p ≤ rn P f p ∧ rn P f p ≤ n ∧ (∀ i, p ≤ i → i < rn P f p → P i = true) ∧ P (rn P f p) = false
  | 0, p, h1, h2 => by
    rw [rn]
    exact ⟨Nat.le_refl _, h1, fun i a b => by omega, hz p (by omega)⟩
  | f + 1, p, h1, h2 => by
    rw [rn]
    cases hp : P p
    · rw [if_neg (by decide)]
      exact ⟨Nat.le_refl _, h1, fun i a b => by omega, hp⟩
    · rw [if_pos rfl]
      have hn : p < n := by
        apply Classical.byContradiction
        intro z
        rw [hz p (by omega)] at hp
        cases hp
      have ih := rn_sp hz f (p + 1) (by omega) (by omega)
      refine ⟨by omega, ih.2.1, fun i a b => ?_, ih.2.2.2⟩
      by_cases e : i = p
      · rw [e]
        exact hp
      · exact ih.2.2.1 i (by omega) b
def isBk (x : Nat) : Bool := decide (x = 10 ∨ x = 32)
def isLt (x : Nat) : Bool := decide (97 ≤ x ∧ x ≤ 122)
def isDg (x : Nat) : Bool := decide (48 ≤ x ∧ x ≤ 57)
def isSg (x : Nat) : Bool := decide (x = 59 ∨ x = 60 ∨ x = 62 ∨ x = 61 ∨ x = 40 ∨ x = 41)
/-- a text: at most 800 bytes, nothing behind -/
def Tw (T : Tx) : Prop := T.2 ≤ 800 ∧ (∀ k, T.2 ≤ k → T.1 k = 0) ∧ ∀ k, T.1 k < 256
def xS (T : Tx) (p : Nat) : Nat := rn (fun i => isBk (T.1 i)) 801 p
def xL (T : Tx) (p : Nat) : Nat := rn (fun i => isLt (T.1 i)) 801 p
def xD (T : Tx) (p : Nat) : Nat := rn (fun i => isDg (T.1 i)) 801 p
theorem Bk_z {T : Tx} (tw : Tw T) : ∀ i, T.2 ≤ i → (fun i => isBk (T.1 i)) i = false := fun i h => by
  show isBk (T.1 i) = false
  rw [tw.2.1 i h]
  rfl
theorem Lt_z {T : Tx} (tw : Tw T) : ∀ i, T.2 ≤ i → (fun i => isLt (T.1 i)) i = false := fun i h => by
  show isLt (T.1 i) = false
  rw [tw.2.1 i h]
  rfl
theorem Dg_z {T : Tx} (tw : Tw T) : ∀ i, T.2 ≤ i → (fun i => isDg (T.1 i)) i = false := fun i h => by
  show isDg (T.1 i) = false
  rw [tw.2.1 i h]
  rfl
theorem xS_sp {T : Tx} (tw : Tw T) {p : Nat} (h : p ≤ T.2) : p ≤ xS T p ∧ xS T p ≤ T.2 ∧ (∀ i, p ≤ i → i < xS T p → isBk (T.1 i) = true) ∧ isBk (T.1 (xS T p)) = false := rn_sp (Bk_z tw) 801 p h (by have := tw.1; omega)
theorem xL_sp {T : Tx} (tw : Tw T) {p : Nat} (h : p ≤ T.2) : p ≤ xL T p ∧ xL T p ≤ T.2 ∧ (∀ i, p ≤ i → i < xL T p → isLt (T.1 i) = true) ∧ isLt (T.1 (xL T p)) = false := rn_sp (Lt_z tw) 801 p h (by have := tw.1; omega)
theorem xD_sp {T : Tx} (tw : Tw T) {p : Nat} (h : p ≤ T.2) : p ≤ xD T p ∧ xD T p ≤ T.2 ∧ (∀ i, p ≤ i → i < xD T p → isDg (T.1 i) = true) ∧ isDg (T.1 (xD T p)) = false := rn_sp (Dg_z tw) 801 p h (by have := tw.1; omega)
theorem xS_eq {T : Tx} (tw : Tw T) {p q : Nat} (h : p ≤ q) (hq : q ≤ T.2) (hb : ∀ i, p ≤ i → i < q → isBk (T.1 i) = true) (he : isBk (T.1 q) = false) : xS T p = q := rn_eq (P := fun i => isBk (T.1 i)) h hb he (by have := tw.1; omega)
theorem xL_eq {T : Tx} (tw : Tw T) {p q : Nat} (h : p ≤ q) (hq : q ≤ T.2) (hb : ∀ i, p ≤ i → i < q → isLt (T.1 i) = true) (he : isLt (T.1 q) = false) : xL T p = q := rn_eq (P := fun i => isLt (T.1 i)) h hb he (by have := tw.1; omega)
theorem xD_eq {T : Tx} (tw : Tw T) {p q : Nat} (h : p ≤ q) (hq : q ≤ T.2) (hb : ∀ i, p ≤ i → i < q → isDg (T.1 i) = true) (he : isDg (T.1 q) = false) : xD T p = q := rn_eq (P := fun i => isDg (T.1 i)) h hb he (by have := tw.1; omega)
theorem xS_st {T : Tx} (tw : Tw T) {p : Nat} (h : p < T.2) (hb : isBk (T.1 p) = true) : xS T p = xS T (p + 1) := by
  have h1 := xS_sp tw (show p + 1 ≤ T.2 by omega)
  refine xS_eq tw (by omega) h1.2.1 (fun i a b => ?_) h1.2.2.2
  by_cases e : i = p
  · rw [e]
    exact hb
  · exact h1.2.2.1 i (by omega) b
theorem xS_id {T : Tx} (tw : Tw T) {p : Nat} (h : p ≤ T.2) (hb : isBk (T.1 p) = false) : xS T p = p := xS_eq tw (Nat.le_refl _) h (fun i a b => by omega) hb
/-- where the token ends that begins at a place -/
def xE (T : Tx) (s : Nat) : Nat := if T.2 ≤ s then s else if isLt (T.1 s) = true then xL T s else if isDg (T.1 s) = true then xD T s else s + 1
theorem xE_b {T : Tx} (tw : Tw T) {s : Nat} (h : s < T.2) : s + 1 ≤ xE T s ∧ xE T s ≤ T.2 := by
  unfold xE
  rw [if_neg (by omega)]
  have hl := xL_sp tw (show s ≤ T.2 by omega)
  have hd := xD_sp tw (show s ≤ T.2 by omega)
  split
  · rename_i z
    refine ⟨?_, hl.2.1⟩
    apply Classical.byContradiction
    intro y
    rw [show xL T s = s by omega, z] at hl
    cases hl.2.2.2
  · split
    · rename_i z
      refine ⟨?_, hd.2.1⟩
      apply Classical.byContradiction
      intro y
      rw [show xD T s = s by omega, z] at hd
      cases hd.2.2.2
    · omega
theorem xE_z {T : Tx} {s : Nat} (h : T.2 ≤ s) : xE T s = s := if_pos h
/-- where the blanks ahead of the i-th token begin, and where it does -/
def tp (T : Tx) : Nat → Nat
  | 0 => 0
  | i + 1 => xE T (xS T (tp T i))
def tA (T : Tx) (i : Nat) : Nat := xS T (tp T i)
theorem tp_le {T : Tx} (tw : Tw T) : ∀ i, tp T i ≤ T.2
  | 0 => Nat.zero_le _
  | i + 1 => by
    have ih := xS_sp tw (tp_le tw i)
    rw [tp]
    by_cases h : xS T (tp T i) < T.2
    · exact (xE_b tw h).2
    · rw [xE_z (by omega)]
      exact ih.2.1
theorem tA_sp {T : Tx} (tw : Tw T) (i : Nat) : tp T i ≤ tA T i ∧ tA T i ≤ T.2 ∧ isBk (T.1 (tA T i)) = false := by
  have h := xS_sp tw (tp_le tw i)
  exact ⟨h.1, h.2.1, h.2.2.2⟩
theorem tp_s {T : Tx} {i : Nat} : tp T (i + 1) = xE T (tA T i) := rfl
theorem tA_mono {T : Tx} (tw : Tw T) {i : Nat} (h : tA T i < T.2) : tA T i + 1 ≤ tA T (i + 1) := by
  have h1 := xE_b tw h
  have h2 := (tA_sp tw (i + 1)).1
  rw [tp_s] at h2
  omega
theorem tA_back {T : Tx} (tw : Tw T) {i : Nat} (h : tA T (i + 1) < T.2) : tA T i < T.2 := by
  apply Classical.byContradiction
  intro z
  have h1 := (tA_sp tw (i + 1)).1
  rw [tp_s, xE_z (by omega)] at h1
  omega
theorem tA_i {T : Tx} (tw : Tw T) : ∀ i, tA T i < T.2 → i ≤ tA T i
  | 0, _ => Nat.zero_le _
  | i + 1, h => by
    have h1 := tA_back tw h
    have ih := tA_i tw i h1
    have h2 := tA_mono tw h1
    omega
-- words
def wl (T : Tx) (s : Nat) : Nat → List Nat
  | 0 => []
  | m + 1 => (T.1 (s + m) - 96) :: wl T s m
def cd (b : Nat) : List Nat → Nat
  | [] => 0
  | c :: l => cd b l * b + c
theorem wl_len (T : Tx) (s : Nat) : ∀ m, (wl T s m).length = m
  | 0 => rfl
  | m + 1 => by rw [wl, List.length_cons, wl_len T s m]
def Lv (l : List Nat) : Prop := ∀ c, c ∈ l → 1 ≤ c ∧ c ≤ 26
theorem wl_v {T : Tx} {s : Nat} : ∀ {m : Nat}, (∀ i, s ≤ i → i < s + m → isLt (T.1 i) = true) → Lv (wl T s m)
  | 0, _, c, hc => by cases hc
  | m + 1, h, c, hc => by
    rw [wl, List.mem_cons] at hc
    rcases hc with hc | hc
    · have := of_decide_eq_true (h (s + m) (by omega) (by omega))
      omega
    · exact wl_v (fun i a b => h i a (by omega)) c hc
theorem cd_inj {b : Nat} (hb : b = 27 ∨ b = 32) : ∀ {l l' : List Nat}, Lv l → Lv l' → cd b l = cd b l' → l = l'
  | [], [], _, _, _ => rfl
  | [], c :: l, _, h, e => by
    have := h c (List.mem_cons_self ..)
    rw [cd, cd] at e
    omega
  | c :: l, [], h, _, e => by
    have := h c (List.mem_cons_self ..)
    rw [cd, cd] at e
    omega
  | c :: l, c' :: l', h, h', e => by
    have h1 := h c (List.mem_cons_self ..)
    have h2 := h' c' (List.mem_cons_self ..)
    rw [cd, cd] at e
    have h3 : c = c' ∧ cd b l = cd b l' := by
      rcases hb with rfl | rfl <;> omega
    rw [h3.1, cd_inj hb (fun x hx => h x (List.mem_cons_of_mem _ hx)) (fun x hx => h' x (List.mem_cons_of_mem _ hx)) h3.2]
theorem cd_le {b : Nat} (hb : b ≤ 32) : ∀ {l : List Nat}, Lv l → cd b l < 32 ^ l.length
  | [], _ => Nat.one_pos
  | c :: l, h => by
    have ih := cd_le hb (l := l) (fun x hx => h x (List.mem_cons_of_mem _ hx))
    have h1 := h c (List.mem_cons_self ..)
    rw [cd, List.length_cons, Nat.pow_succ]
    have h2 : cd b l * b ≤ cd b l * 32 := Nat.mul_le_mul_left _ hb
    omega
theorem cd_8 {b : Nat} (hb : b ≤ 32) {l : List Nat} (h : Lv l) (h8 : l.length ≤ 8) : cd b l < 1099511627776 := by
  have h1 := cd_le hb h
  have h2 : 32 ^ l.length ≤ 32 ^ 8 := Nat.pow_le_pow_right (by decide) h8
  have h3 : 32 ^ 8 = 1099511627776 := by decide
  omega
def RW : List (List Nat) := [[7, 14, 9, 8, 20], [18, 1, 5, 23], [4, 14, 5, 19], [7, 14, 9, 11, 1, 13], [19, 5, 22, 9, 7], [19, 18, 21, 15, 8], [19, 4, 14, 1, 8], [6, 15], [8, 20, 9, 23], [14, 15, 19, 18, 5, 16], [13, 15, 18, 6], [15, 20], [12, 12, 9], [20, 14, 1, 23], [20, 1], [8, 20, 18, 15, 23], [14, 5, 20, 1, 5], [19, 25, 1, 20, 19], [14, 18, 15, 23], [4, 12, 5, 8], [20, 14, 5, 19], [5, 18, 5, 8], [25, 1, 4], [18, 15], [4, 14, 1], [20, 15, 14], [25, 2], [4, 12, 15, 8]]
def rsI : List (List Nat) → Nat → List Nat → Nat
  | [], _, _ => 3
  | w :: r, k, l => if l = w then k else rsI r (k + 1) l
def rsv (l : List Nat) : Nat := rsI RW 128 l
theorem rsI_sp {l : List Nat} : ∀ (r : List (List Nat)) (k : Nat), (rsI r k l = 3 ∧ ∀ j, j < r.length → ¬ l = r.getD j []) ∨ ∃ j, j < r.length ∧ rsI r k l = k + j ∧ l = r.getD j []
  | [], k => Or.inl ⟨rfl, fun j h => by cases h⟩
  | w :: r, k => by
    rw [rsI]
    by_cases e : l = w
    · rw [if_pos e]
      exact Or.inr ⟨0, Nat.succ_pos _, rfl, e⟩
    · rw [if_neg e]
      rcases rsI_sp r (k + 1) with ⟨h1, h2⟩ | ⟨j, h1, h2, h3⟩
      · refine Or.inl ⟨h1, fun j hj => ?_⟩
        cases j with
        | zero => exact e
        | succ j => exact h2 j (by rw [List.length_cons] at hj; omega)
      · exact Or.inr ⟨j + 1, by rw [List.length_cons]; omega, by omega, h3⟩
theorem RW_len : RW.length = 28 := rfl
theorem RW_rs : ∀ k, k < 28 → rsv (RW.getD k []) = 128 + k := by decide +kernel
theorem RW_ok : ∀ k, k < 28 → Lv (RW.getD k []) ∧ (RW.getD k []).length ≤ 8 := by
  have h : ∀ k, k < 28 → (RW.getD k []).all (fun c => decide (1 ≤ c ∧ c ≤ 26)) = true ∧ (RW.getD k []).length ≤ 8 := by decide +kernel
  intro k hk
  refine ⟨fun c hc => ?_, (h k hk).2⟩
  exact of_decide_eq_true (List.all_eq_true.mp (h k hk).1 c hc)
theorem rsv_b (l : List Nat) : rsv l = 3 ∨ (128 ≤ rsv l ∧ rsv l ≤ 155) := by
  rcases rsI_sp (l := l) RW 128 with ⟨h1, _⟩ | ⟨j, h1, h2, _⟩
  · exact Or.inl h1
  · rw [RW_len] at h1
    have h3 : rsv l = 128 + j := h2
    omega
theorem rsv_k {l : List Nat} {k : Nat} (hk : k < 28) : rsv l = 128 + k ↔ l = RW.getD k [] := by
  constructor
  · intro h
    rcases rsI_sp (l := l) RW 128 with ⟨h1, _⟩ | ⟨j, h1, h2, h3⟩
    · have h3 : rsv l = 3 := h1
      omega
    · have h4 : rsv l = 128 + j := h2
      rw [show k = j by omega]
      exact h3
  · intro h
    rw [h]
    exact RW_rs k hk
-- numbers
def nvf (T : Tx) (s : Nat) : Nat → Nat
  | 0 => 0
  | m + 1 => nvf T s m * 10 + (T.1 (s + m) - 48)
theorem nvf_lt {T : Tx} {s : Nat} : ∀ {m : Nat}, (∀ i, s ≤ i → i < s + m → isDg (T.1 i) = true) → nvf T s m < 10 ^ m
  | 0, _ => Nat.one_pos
  | m + 1, h => by
    have ih := nvf_lt (m := m) (fun i a b => h i a (by omega))
    have h1 := of_decide_eq_true (h (s + m) (by omega) (by omega))
    rw [nvf, Nat.pow_succ]
    omega
theorem nvf_4 {T : Tx} {s m : Nat} (h : ∀ i, s ≤ i → i < s + m → isDg (T.1 i) = true) (hm : m ≤ 4) : nvf T s m < 10000 := by
  have h1 := nvf_lt h
  have h2 : 10 ^ m ≤ 10 ^ 4 := Nat.pow_le_pow_right (by decide) hm
  have h3 : 10 ^ 4 = 10000 := by decide
  omega
-- the tokens
def kK (T : Tx) (s : Nat) : Nat := if T.2 ≤ s then 0 else if isLt (T.1 s) = true then (if 8 < xL T s - s then 4 else rsv (wl T s (xL T s - s))) else if isDg (T.1 s) = true then (if 4 < xD T s - s then 1 else 2) else if isSg (T.1 s) = true then T.1 s else 1
def tK (T : Tx) (i : Nat) : Nat := kK T (tA T i)
def tL (T : Tx) (i : Nat) : List Nat := wl T (tA T i) (xL T (tA T i) - tA T i)
def tV (T : Tx) (i : Nat) : Nat := nvf T (tA T i) (xD T (tA T i) - tA T i)
theorem isSg_iff {x : Nat} : isSg x = true ↔ x = 59 ∨ x = 60 ∨ x = 62 ∨ x = 61 ∨ x = 40 ∨ x = 41 := decide_eq_true_iff
/-- what kinds there are -/
theorem kK_b (T : Tx) (s : Nat) : kK T s ≤ 4 ∨ kK T s = 59 ∨ kK T s = 60 ∨ kK T s = 62 ∨ kK T s = 61 ∨ kK T s = 40 ∨ kK T s = 41 ∨ (128 ≤ kK T s ∧ kK T s ≤ 155) := by
  unfold kK
  split
  · omega
  · split
    · split
      · omega
      · have := rsv_b (wl T s (xL T s - s))
        omega
    · split
      · split <;> omega
      · split
        · rename_i h
          have := isSg_iff.mp h
          omega
        · omega
theorem tK_0 {T : Tx} {i : Nat} : tK T i = 0 ↔ T.2 ≤ tA T i := by
  unfold tK kK
  constructor
  · intro h
    apply Classical.byContradiction
    intro z
    rw [if_neg z] at h
    split at h
    · split at h
      · omega
      · have := rsv_b (wl T (tA T i) (xL T (tA T i) - tA T i))
        omega
    · split at h
      · split at h <;> omega
      · split at h
        · rename_i y
          have := isSg_iff.mp y
          omega
        · omega
  · intro h
    rw [if_pos h]
theorem tK_i {T : Tx} (tw : Tw T) {i : Nat} (h : ¬ tK T i = 0) : i < 800 ∧ i ≤ tA T i ∧ tA T i < T.2 := by
  have h1 : tA T i < T.2 := by
    apply Classical.byContradiction
    intro z
    exact h (tK_0.mpr (by omega))
  have h2 := tA_i tw i h1
  have h3 := tw.1
  omega
/-- a name's letters -/
theorem tL_v {T : Tx} (tw : Tw T) {i : Nat} (h : tK T i = 3 ∨ 128 ≤ tK T i) : Lv (tL T i) ∧ (tL T i).length ≤ 8 ∧ tK T i = rsv (tL T i) ∧ isLt (T.1 (tA T i)) = true := by
  have hs := tA_sp tw i
  have hl := xL_sp tw hs.2.1
  have hv : Lv (tL T i) := wl_v (fun j a b => hl.2.2.1 j a (by omega))
  unfold tK kK at h ⊢
  by_cases h0 : T.2 ≤ tA T i
  · rw [if_pos h0] at h
    omega
  · rw [if_neg h0] at h ⊢
    by_cases h1 : isLt (T.1 (tA T i)) = true
    · rw [if_pos h1] at h ⊢
      by_cases h2 : 8 < xL T (tA T i) - tA T i
      · rw [if_pos h2] at h
        omega
      · rw [if_neg h2]
        refine ⟨hv, ?_, rfl, h1⟩
        unfold tL
        rw [wl_len]
        omega
    · rw [if_neg h1] at h
      split at h
      · split at h <;> omega
      · split at h
        · rename_i y
          have := isSg_iff.mp y
          omega
        · omega
theorem tV_b {T : Tx} (tw : Tw T) {i : Nat} (h : tK T i = 2) : tV T i < 10000 := by
  have hs := tA_sp tw i
  have hd := xD_sp tw hs.2.1
  have h4 : ¬ 4 < xD T (tA T i) - tA T i := by
    intro z
    unfold tK kK at h
    split at h
    · omega
    · split at h
      · split at h
        · omega
        · have := rsv_b (wl T (tA T i) (xL T (tA T i) - tA T i))
          omega
      · split at h
        · first | omega | (rw [if_pos z] at h; omega)
        · split at h
          · rename_i y
            have := isSg_iff.mp y
            omega
          · omega
  exact nvf_4 (fun j a b => hd.2.2.1 j a (by omega)) (by omega)
/-- the reference's word for it -/
def tTok (k : Nat) : Nat := if k = 0 then 0 else if k = 1 then 4 else if k = 2 then 2 else if k = 3 ∨ k = 4 ∨ 128 ≤ k then 1 else 3
