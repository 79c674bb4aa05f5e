-- THE WHOLE: the state of both
/-- a plan that was told names nothing twice -/
def Pu (z : Pl9) : Prop := ∀ i j, i < z.1 → j < z.1 → ¬ z.2 (5 * i) = 0 → z.2 (5 * i) = z.2 (5 * j) → i = j
theorem jbX_u {T : Tx} {x : St9} {z : Pl9} {s : Ps} (h0 : s.2 = 0) (h : (joS T x z s).2 = 0) (p : Pu z) : Pu (jbX T x z s) := by
  have hb : (jb0 T z s).2 = 0 := Classical.byContradiction (fun y => by
    rw [jo_f0 y] at h
    exact y h)
  have ht : ¬ kO (tK T s.1) = 0 → pTold z (kO (tK T s.1)) z.1 = false := fun hk => by
    cases hp : pTold z (kO (tK T s.1)) z.1
    · rfl
    · exfalso
      unfold jb0 at hb
      rw [if_neg (fun q => q h0)] at hb
      by_cases h4 : kO (tK T s.1) = 4
      · rw [if_pos h4] at hb
        exact (sWrong_n h0).1 hb
      · rw [if_neg h4, if_pos ⟨hk, hp⟩] at hb
        exact sFail_n (by decide) h0 hb
  obtain ⟨c0, c1, c2, c3, c4, cs⟩ := jbX_c T x z s
  have no : ¬ kO (tK T s.1) = 0 → ∀ j, j < z.1 → ¬ z.2 (5 * j) = kO (tK T s.1) := fun hk j hj e => by
    have := ht hk
    rw [pTold_y hj e] at this
    cases this
  intro i j hi hj hne he
  rw [c0] at hi hj
  by_cases ei : i = z.1
  · by_cases ej : j = z.1
    · omega
    · exfalso
      subst ei
      rw [c1] at hne he
      rw [cs (5 * j) (by omega)] at he
      exact no hne j (by omega) he.symm
  · by_cases ej : j = z.1
    · exfalso
      subst ej
      rw [cs (5 * i) (by omega)] at hne he
      rw [c1] at he
      rw [he] at hne
      exact no hne i (by omega) he
    · rw [cs (5 * i) (by omega)] at hne he
      rw [cs (5 * j) (by omega)] at he
      exact p i j (by omega) (by omega) hne he
theorem plP_u {T : Tx} {x : St9} : ∀ (f : Nat) (z : Pl9) (s : Ps), s.2 = 0 → Pu z → Pu (plP T x f z s).1
  | 0, z, s, _, p => p
  | f + 1, z, s, h0, p => by
    rw [plP]
    split
    · exact p
    · split
      · exact p
      · rename_i h2
        have h3 : (joS T x z s).2 = 0 := Classical.byContradiction h2
        exact plP_u f _ _ h3 (jbX_u h0 h3 p)
theorem plR_u (T : Tx) (x : St9) : Pu (plR T x).1 := plP_u 801 _ _ rfl (fun i j hi _ _ _ => absurd hi (Nat.not_lt_zero _))
theorem plD_wn {d : Td} {z : Pl9} (p : Pu z) : Wn (plD d z) := by
  refine ⟨?_, fun i j hi hj hne he => ?_⟩
  · show (if 520 = 4 then z.1 else if 520 = 520 then 1 else _) ≤ 1
    rw [if_neg (by decide), if_pos rfl]
    exact Nat.le_refl _
  · have hi2 : i < z.1 := hi
    have hj2 : j < z.1 := hj
    rw [show plD d z (521 + 5 * i) = z.2 (5 * i) from plD_j (i := 0) hi2 (by decide)] at hne he
    rw [show plD d z (521 + 5 * j) = z.2 (5 * j) from plD_j (i := 0) hj2 (by decide)] at he
    exact p i j hi2 hj2 hne he
theorem plD_wl {d : Td} {z : Pl9} (h : Wl d) : Wl (plD d z) := fun k hk h1 => by
  rw [plD_lo (by omega) (by omega)] at h1
  have q := h k hk h1
  exact nOk_cg (plD_lo (by omega) (by omega)) (plD_lo (by omega) (by omega)) (fun j j1 j2 => plD_lo (by omega) (by have := q.2.1; omega)) q
theorem lwD_hi {d : Td} {y : Lq} (h : y.1 ≤ 150) {j : Nat} (hj : 500 ≤ j) : lwD d y j = d j := lwD_n (by omega)
theorem lwD_4 {d : Td} {y : Lq} {j : Nat} (hj : j < 21) : lwD d y j = d j := lwD_n (by omega)
theorem lwD_wj {d : Td} {y : Lq} (h : y.1 ≤ 150) (p : Wj d) : Wj (lwD d y) := fun j hj => by
  rw [lwD_4 (j := 4) (by decide)] at hj
  rw [lwD_hi (j := 521 + 5 * j) h (by omega), lwD_hi (j := 522 + 5 * j) h (by omega), lwD_hi (j := 523 + 5 * j) h (by omega), lwD_hi (j := 524 + 5 * j) h (by omega), lwD_4 (j := 0) (by decide), lwD_4 (j := 1) (by decide), lwD_4 (j := 2) (by decide)]
  exact p j hj
theorem lwD_wn {d : Td} {y : Lq} (h : y.1 ≤ 150) (p : Wn d) : Wn (lwD d y) := by
  refine ⟨by rw [lwD_hi h (by decide)]; exact p.1, fun i j hi hj hne he => ?_⟩
  rw [lwD_4 (by decide)] at hi hj
  rw [lwD_hi h (by omega)] at hne he
  rw [lwD_hi h (by omega)] at he
  exact p.2 i j hi hj hne he
theorem twR_gd (T : Tx) (W : Nat → List Nat) : Gd (twR T).1.1 W := by
  have z := twR_z T
  refine ⟨twR_wf T, fun k hk h1 => ?_, fun j hj => ?_, ?_, fun i j hi => ?_⟩
  · rw [z (21 + k) (by omega)] at h1
    cases h1
  · rw [z 4 (by omega)] at hj
    exact absurd hj (Nat.not_lt_zero _)
  · rw [z 520 (by omega)]
    exact Nat.zero_le _
  · rw [z 4 (by omega)] at hi
    exact absurd hi (Nat.not_lt_zero _)
/-- a block of the reference: cells from b on, words from c on -/
def Y_bk (b c : Nat) (d : Td) (W : Nat → List Nat) (M : Mem) : Prop := (∀ k, k < 521 → M.1 5 (b + k) = nI (d k)) ∧ (∀ j, j < d 4 → M.1 5 (b + (521 + 5 * j)) = nI (d (521 + 5 * j)) ∧ (d (521 + 5 * j) = 0 → M.1 5 (b + (521 + 5 * j + 1)) = nI (d (522 + 5 * j))) ∧ M.1 5 (b + (521 + 5 * j + 2)) = nI (d (523 + 5 * j)) ∧ M.1 5 (b + (521 + 5 * j + 3)) = nI (d (524 + 5 * j))) ∧ (∀ k, k < d 0 → M.2.1 6 (c + k) = nJ (cd 32 (W (0 + k))) ∧ Lv (W (0 + k)) ∧ (W (0 + k)).length ≤ 8) ∧ (∀ k, k < d 1 → M.2.1 6 (c + (8 + k)) = nJ (cd 32 (W (8 + k))) ∧ Lv (W (8 + k)) ∧ (W (8 + k)).length ≤ 8) ∧ ∀ k, k < d 2 → M.2.1 6 (c + (20 + k)) = nJ (cd 32 (W (20 + k))) ∧ Lv (W (20 + k)) ∧ (W (20 + k)).length ≤ 8
theorem Y_bk_mv {b c b' c' : Nat} {d : Td} {W : Nat → List Nat} {M M' : Mem} (wf : Wf d) (h5 : ∀ k, k < 650 → M'.1 5 (b' + k) = M.1 5 (b + k)) (h6 : ∀ k, k < 26 → M'.2.1 6 (c' + k) = M.2.1 6 (c + k)) (h : Y_bk b c d W M) : Y_bk b' c' d W M' := by
  have hb := wf.1
  obtain ⟨a1, a2, a3, a4, a5⟩ := h
  refine ⟨fun k hk => (h5 k (by omega)).trans (a1 k hk), fun j hj => ?_, fun k hk => ⟨(h6 k (by omega)).trans (a3 k hk).1, (a3 k hk).2⟩, fun k hk => ⟨(h6 _ (by omega)).trans (a4 k hk).1, (a4 k hk).2⟩, fun k hk => ⟨(h6 _ (by omega)).trans (a5 k hk).1, (a5 k hk).2⟩⟩
  obtain ⟨e1, e2, e3, e4⟩ := a2 j hj
  exact ⟨(h5 _ (by omega)).trans e1, fun z => (h5 _ (by omega)).trans (e2 z), (h5 _ (by omega)).trans e3, (h5 _ (by omega)).trans e4⟩
theorem Y_bk_tm {d : Td} {W : Nat → List Nat} {M : Mem} (h : Y_bk 0 0 d W M) : Y_tm 0 d M := fun k hk => by
  have := h.1 k hk
  rw [Nat.zero_add] at this
  rw [show 650 * 0 + k = k by omega]
  exact this
theorem Y_bk_pj {d : Td} {W : Nat → List Nat} {M : Mem} (h : Y_bk 0 0 d W M) : Y_pj d M := fun j hj => by
  have e := h.2.1 j hj
  rw [Nat.zero_add, Nat.zero_add, Nat.zero_add, Nat.zero_add] at e
  exact e
theorem Y_bk_wm {d : Td} {W : Nat → List Nat} {M : Mem} (h : Y_bk 0 0 d W M) : Y_wm (d, W) M := by
  obtain ⟨a1, a2, a3, a4, a5⟩ := h
  have z : ∀ k, k < 521 → M.1 5 k = nI (d k) := fun k hk => by
    have := a1 k hk
    rw [Nat.zero_add] at this
    exact this
  refine ⟨⟨z 1 (by decide), z 2 (by decide), z 0 (by decide)⟩, fun k hk => ?_, fun k hk => ?_, fun k hk => ?_⟩
  · have e : M.2.1 6 (0 + k) = M.2.1 6 k := by rw [Nat.zero_add]
    have := a3 k hk
    rw [e] at this
    exact this
  · have e : M.2.1 6 (0 + (8 + k)) = M.2.1 6 (8 + k) := by rw [Nat.zero_add]
    have := a4 k hk
    rw [e] at this
    exact this
  · have e : M.2.1 6 (0 + (20 + k)) = M.2.1 6 (20 + k) := by rw [Nat.zero_add]
    have := a5 k hk
    rw [e] at this
    exact this
def Y_st (mk : Nat) (D : Nat → Td) (W : Nat → Nat → List Nat) (g : Td) (M : Mem) : Prop := (M.1 0 25 = nI mk ∧ mk ≤ 3) ∧ Y_bk 0 0 (D mk) (W mk) M ∧ (∀ i, i < mk → Y_bk (650 * (i + 1)) (26 * (i + 1)) (D i) (W i) M) ∧ ∀ j, 139 ≤ j → j < 155 → M.1 5 (2600 + j) = nI (g j)
theorem Y_st_dp {mk : Nat} {D : Nat → Td} {W : Nat → Nat → List Nat} {g : Td} (hG : ∀ i, i ≤ mk → Gd (D i) (W i)) : r_dp [(0, 25)] [5, 6] (Y_st mk D W g) := fun M M' q p => by
  obtain ⟨⟨a1, a2⟩, b, c, e⟩ := p
  have h5 : ∀ k, M'.1 5 k = M.1 5 k := fun k => (q 5 k rfl).1
  have h6 : ∀ k, M'.2.1 6 k = M.2.1 6 k := fun k => (q 6 k rfl).2.1
  exact ⟨⟨(q 0 25 rfl).1.trans a1, a2⟩, Y_bk_mv (hG mk (Nat.le_refl _)).1 (fun k _ => h5 _) (fun k _ => h6 _) b, fun i hi => Y_bk_mv (hG i (by omega)).1 (fun k _ => h5 _) (fun k _ => h6 _) (c i hi), fun j h1 h2 => (h5 _).trans (e j h1 h2)⟩
abbrev Ss9 : Type := Nat × (Nat → Td) × (Nat → Nat → List Nat) × Td
abbrev Sg9 : Type := Int32 × (Nat → Tr) × (Nat × (Nat → Int32)) × (Int32 × Int32) × (Int64 × Int64) × Sp × Tl × Tl × Tl × Ss9
def X_hal (M : Mem) : Prop := M.1 59 0 = nI 0
theorem X_hal_dp : r_dp [] [59] X_hal := fun _ _ q p => (q 59 0 rfl).1.trans p
def X_sx (mk : Nat) (D : Nat → Td) (W : Nat → Nat → List Nat) (M : Mem) : Prop := ∃ tw lw pl, X_st mk tw lw pl D W M
theorem X_sx_dp {mk : Nat} {D : Nat → Td} {W : Nat → Nat → List Nat} (hG : ∀ i, i ≤ mk → Gd (D i) (W i)) : r_dp [(0, 5), (0, 6), (0, 7), (0, 8)] cuA (X_sx mk D W) := fun M M' q p => by
  obtain ⟨tw, lw, pl, h⟩ := p
  exact ⟨tw, lw, pl, X_st_dp hG M M' q h⟩
/-- a tape of bytes -/
def Tb (tp : Nat × (Nat → Int32)) : Prop := ∀ k, k < tp.1 → -128 ≤ (tp.2 k).toInt ∧ (tp.2 k).toInt ≤ 127
theorem f_byte_b (x : Int32) (n : Nat) : -128 ≤ (f_byte x n).toInt ∧ (f_byte x n).toInt ≤ 127 := by
  unfold f_byte
  rw [Int8.toInt_toInt32]
  exact ⟨Int8.le_toInt _, Int8.toInt_le _⟩
theorem f_lay_b {x : Int32} {tp : Nat × (Nat → Int32)} (h : Tb tp) : Tb (f_lay x tp) := fun k hk => by
  have hk2 : k < tp.1 + 4 := hk
  show -128 ≤ ((if k = tp.1 then f_byte x 3 else if k = tp.1 + 1 then f_byte x 2 else if k = tp.1 + 2 then f_byte x 1 else if k = tp.1 + 3 then f_byte x 0 else tp.2 k) : Int32).toInt ∧ ((if k = tp.1 then f_byte x 3 else if k = tp.1 + 1 then f_byte x 2 else if k = tp.1 + 2 then f_byte x 1 else if k = tp.1 + 3 then f_byte x 0 else tp.2 k) : Int32).toInt ≤ 127
  split
  · exact f_byte_b _ _
  · split
    · exact f_byte_b _ _
    · split
      · exact f_byte_b _ _
      · split
        · exact f_byte_b _ _
        · exact h k (by omega)
theorem f_feed_b {p q r s t : Int32} {tp : Nat × (Nat → Int32)} (h : Tb tp) : Tb (f_feed p q r s t tp).2 := by
  unfold f_feed
  split
  · exact h
  · exact f_lay_b (f_lay_b (f_lay_b (f_lay_b (f_lay_b h))))
def RXs (M : Mem) (σ : Sg9) : Prop := M.1 0 0 = σ.1 ∧ X_tr σ.2.1 M ∧ X_tp σ.2.2.1 M ∧ Tb σ.2.2.1 ∧ X_ft σ.2.2.2.1 M ∧ X_fr σ.2.2.2.2.1 M ∧ X_sp σ.2.2.2.2.2.1 M ∧ X_nt σ.2.2.2.2.2.2.1 M ∧ X_th σ.2.2.2.2.2.2.2.1 M ∧ X_lv σ.2.2.2.2.2.2.2.2.1 M ∧ X_rs M ∧ X_hal M ∧ X_sx σ.2.2.2.2.2.2.2.2.2.1 σ.2.2.2.2.2.2.2.2.2.2.1 σ.2.2.2.2.2.2.2.2.2.2.2.1 M ∧ ∀ i, i ≤ σ.2.2.2.2.2.2.2.2.2.1 → Gd (σ.2.2.2.2.2.2.2.2.2.2.1 i) (σ.2.2.2.2.2.2.2.2.2.2.2.1 i)
def RYs (M : Mem) (σ : Sg9) : Prop := M.1 0 0 = σ.1 ∧ Y_tr σ.2.1 M ∧ Y_tp σ.2.2.1 M ∧ Y_ft σ.2.2.2.1 M ∧ Y_fr σ.2.2.2.2.1 M ∧ Y_sp σ.2.2.2.2.2.1 M ∧ Y_nt σ.2.2.2.2.2.2.1 M ∧ Y_th σ.2.2.2.2.2.2.2.1 M ∧ Y_lv σ.2.2.2.2.2.2.2.2.1 M ∧ Y_st σ.2.2.2.2.2.2.2.2.2.1 σ.2.2.2.2.2.2.2.2.2.2.1 σ.2.2.2.2.2.2.2.2.2.2.2.1 σ.2.2.2.2.2.2.2.2.2.2.2.2 M ∧ ∀ i, i ≤ σ.2.2.2.2.2.2.2.2.2.1 → Gd (σ.2.2.2.2.2.2.2.2.2.2.1 i) (σ.2.2.2.2.2.2.2.2.2.2.2.1 i)
