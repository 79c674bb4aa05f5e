def r_b (b : Bool) : Int32 := match b with
  | true => 1
  | false => 0
theorem r_b_01 (b : Bool) : r_b b = 0 ∨ r_b b = 1 := by cases b <;> simp [r_b]
theorem r_b_ne {b : Bool} : (¬ r_b b = 0) ↔ b = true := by cases b <;> simp [r_b]
theorem r_b_eq {b : Bool} : (r_b b = 0) ↔ b = false := by cases b <;> simp [r_b]
theorem r_b_inj {a b : Bool} : (r_b a = r_b b) ↔ a = b := by cases a <;> cases b <;> simp [r_b]
theorem r_b_t {b : Bool} (h : b = true) : nI 1 = r_b b := by subst h; rfl
theorem r_b_f {b : Bool} (h : b = false) : nI 0 = r_b b := by subst h; rfl
theorem r_qe {Q : Rq} {x y : Int32} {G : Wd} {M : Mem} (h : x = y) (k : Q (some (.int y)) G M) : Q (some (.int x)) G M := h ▸ k
theorem r_qm {Q : Rq} {v : Option Value} {G : Wd} {M M' : Mem} (h : M = M') (k : Q v G M') : Q v G M := h ▸ k
section RB
variable {d : Nat} {mt : Mt} {a : (Nat × Nat) × (Nat × Nat)} {pc : Nat} {L : Ls} {st : List Value} {G : Wd} {M : Mem} {Q : Rq}
theorem Ru_if_eqB {b : Bool} {off : Int} (tgt : Nat) (hd : decode mt.2.1 pc = .ok (.ifCond .eq off, 3)) (ht : (pc : Int) + off = (tgt : Int)) (kt : b = false → Ru d mt a tgt L st G M Q) (kf : b = true → Ru d mt a (pc + 3) L st G M Q) : Ru d mt a pc L (.int (r_b b) :: st) G M Q :=
  Ru_if_eq tgt hd ht (fun h => kt (r_b_eq.mp h)) (fun h => kf (r_b_ne.mp h))
theorem Ru_if_neB {b : Bool} {off : Int} (tgt : Nat) (hd : decode mt.2.1 pc = .ok (.ifCond .ne off, 3)) (ht : (pc : Int) + off = (tgt : Int)) (kt : b = true → Ru d mt a tgt L st G M Q) (kf : b = false → Ru d mt a (pc + 3) L st G M Q) : Ru d mt a pc L (.int (r_b b) :: st) G M Q :=
  Ru_if_ne tgt hd ht (fun h => kt (r_b_ne.mp h)) (fun h => kf (r_b_eq.mp h))
theorem Ru_if_eqC {x y : Int64} {off : Int} (tgt : Nat) (hd : decode mt.2.1 pc = .ok (.ifCond .eq off, 3)) (ht : (pc : Int) + off = (tgt : Int)) (kt : x = y → Ru d mt a tgt L st G M Q) (kf : ¬ (x = y) → Ru d mt a (pc + 3) L st G M Q) : Ru d mt a pc L (.int (lg_cmp x y) :: st) G M Q :=
  Ru_if_eq tgt hd ht (fun h => kt ((lg_cmp_eq x y).mp h)) (fun h => kf (fun z => h ((lg_cmp_eq x y).mpr z)))
theorem Ru_if_ltC {x y : Int64} {off : Int} (tgt : Nat) (hd : decode mt.2.1 pc = .ok (.ifCond .lt off, 3)) (ht : (pc : Int) + off = (tgt : Int)) (kt : x < y → Ru d mt a tgt L st G M Q) (kf : ¬ (x < y) → Ru d mt a (pc + 3) L st G M Q) : Ru d mt a pc L (.int (lg_cmp x y) :: st) G M Q :=
  Ru_if_lt tgt hd ht (fun h => kt ((lg_cmp_lt x y).mp h)) (fun h => kf (fun z => h ((lg_cmp_lt x y).mpr z)))
theorem Ru_if_geC {x y : Int64} {off : Int} (tgt : Nat) (hd : decode mt.2.1 pc = .ok (.ifCond .ge off, 3)) (ht : (pc : Int) + off = (tgt : Int)) (kt : y ≤ x → Ru d mt a tgt L st G M Q) (kf : ¬ (y ≤ x) → Ru d mt a (pc + 3) L st G M Q) : Ru d mt a pc L (.int (lg_cmp x y) :: st) G M Q :=
  Ru_if_ge tgt hd ht (fun h => kt ((lg_cmp_ge x y).mp h)) (fun h => kf (fun z => h ((lg_cmp_ge x y).mpr z)))
theorem Ru_if_gtC {x y : Int64} {off : Int} (tgt : Nat) (hd : decode mt.2.1 pc = .ok (.ifCond .gt off, 3)) (ht : (pc : Int) + off = (tgt : Int)) (kt : y < x → Ru d mt a tgt L st G M Q) (kf : ¬ (y < x) → Ru d mt a (pc + 3) L st G M Q) : Ru d mt a pc L (.int (lg_cmp x y) :: st) G M Q :=
  Ru_if_gt tgt hd ht (fun h => kt ((lg_cmp_gt x y).mp h)) (fun h => kf (fun z => h ((lg_cmp_gt x y).mpr z)))
theorem Ru_if_leC {x y : Int64} {off : Int} (tgt : Nat) (hd : decode mt.2.1 pc = .ok (.ifCond .le off, 3)) (ht : (pc : Int) + off = (tgt : Int)) (kt : x ≤ y → Ru d mt a tgt L st G M Q) (kf : ¬ (x ≤ y) → Ru d mt a (pc + 3) L st G M Q) : Ru d mt a pc L (.int (lg_cmp x y) :: st) G M Q :=
  Ru_if_le tgt hd ht (fun h => kt ((lg_cmp_le x y).mp h)) (fun h => kf (fun z => h ((lg_cmp_le x y).mpr z)))
theorem Ru_if_neC {x y : Int64} {off : Int} (tgt : Nat) (hd : decode mt.2.1 pc = .ok (.ifCond .ne off, 3)) (ht : (pc : Int) + off = (tgt : Int)) (kt : ¬ x = y → Ru d mt a tgt L st G M Q) (kf : x = y → Ru d mt a (pc + 3) L st G M Q) : Ru d mt a pc L (.int (lg_cmp x y) :: st) G M Q :=
  Ru_if_ne tgt hd ht (fun h => kt (fun z => h ((lg_cmp_eq x y).mpr z))) (fun h => kf ((lg_cmp_eq x y).mp h))
theorem Ru_if_eqN {n : Nat} {off : Int} (tgt : Nat) (hd : decode mt.2.1 pc = .ok (.ifCond .eq off, 3)) (ht : (pc : Int) + off = (tgt : Int)) (hb : n < 2147483648) (kt : n = 0 → Ru d mt a tgt L st G M Q) (kf : n ≠ 0 → Ru d mt a (pc + 3) L st G M Q) : Ru d mt a pc L (.int (nI n) :: st) G M Q := by
  have h0 : (0 : Int32) = nI 0 := rfl
  have e : (nI n = (0 : Int32)) ↔ n = 0 := by
    rw [h0]
    exact nI_eq hb (by decide)
  exact Ru_if_eq tgt hd ht (fun h => kt (e.mp h)) (fun h => kf (fun z => h (e.mpr z)))
theorem Ru_if_gtN {n : Nat} {off : Int} (tgt : Nat) (hd : decode mt.2.1 pc = .ok (.ifCond .gt off, 3)) (ht : (pc : Int) + off = (tgt : Int)) (hb : n < 2147483648) (kt : 0 < n → Ru d mt a tgt L st G M Q) (kf : n = 0 → Ru d mt a (pc + 3) L st G M Q) : Ru d mt a pc L (.int (nI n) :: st) G M Q := by
  have h0 : (0 : Int32) = nI 0 := rfl
  have e : ((0 : Int32) < nI n) ↔ 0 < n := by
    rw [h0]
    exact nI_ltI (by decide) hb
  exact Ru_if_gt tgt hd ht (fun h => kt (e.mp h)) (fun h => kf (Nat.eq_zero_of_not_pos (fun z => h (e.mpr z))))
theorem Ru_if_leN {n : Nat} {off : Int} (tgt : Nat) (hd : decode mt.2.1 pc = .ok (.ifCond .le off, 3)) (ht : (pc : Int) + off = (tgt : Int)) (hb : n < 2147483648) (kt : n = 0 → Ru d mt a tgt L st G M Q) (kf : 0 < n → Ru d mt a (pc + 3) L st G M Q) : Ru d mt a pc L (.int (nI n) :: st) G M Q := by
  have h0 : (0 : Int32) = nI 0 := rfl
  have e : (nI n ≤ (0 : Int32)) ↔ n = 0 := by
    rw [h0]
    exact (nI_leI hb (by decide)).trans (by omega)
  exact Ru_if_le tgt hd ht (fun h => kt (e.mp h)) (fun h => kf (Nat.pos_of_ne_zero (fun z => h (e.mpr z))))
theorem Ru_if_neN {n : Nat} {off : Int} (tgt : Nat) (hd : decode mt.2.1 pc = .ok (.ifCond .ne off, 3)) (ht : (pc : Int) + off = (tgt : Int)) (hb : n < 2147483648) (kt : n ≠ 0 → Ru d mt a tgt L st G M Q) (kf : n = 0 → Ru d mt a (pc + 3) L st G M Q) : Ru d mt a pc L (.int (nI n) :: st) G M Q := by
  have e : (nI n = (0 : Int32)) ↔ n = 0 := by
    rw [show (0 : Int32) = nI 0 from rfl]
    exact nI_eq hb (by decide)
  exact Ru_if_ne tgt hd ht (fun h => kt (fun z => h (e.mpr z))) (fun h => kf (e.mp h))
theorem Ru_if_ltN {n : Nat} {off : Int} (hd : decode mt.2.1 pc = .ok (.ifCond .lt off, 3)) (hb : n < 2147483648) (kf : Ru d mt a (pc + 3) L st G M Q) {tgt : Nat} : ((pc : Int) + off = (tgt : Int)) → Ru d mt a pc L (.int (nI n) :: st) G M Q := fun ht => Ru_if_lt tgt hd ht (fun h => absurd h (nI_pos (show n < 2 ^ 31 by omega))) (fun _ => kf)
theorem Ru_if_geN {n : Nat} {off : Int} (tgt : Nat) (hd : decode mt.2.1 pc = .ok (.ifCond .ge off, 3)) (ht : (pc : Int) + off = (tgt : Int)) (hb : n < 2147483648) (kt : Ru d mt a tgt L st G M Q) : Ru d mt a pc L (.int (nI n) :: st) G M Q := Ru_if_ge tgt hd ht (fun _ => kt) (fun h => absurd (nI_pos' (show n < 2 ^ 31 by omega)) h)
theorem Ru_iincD {i n : Nat} {j : Int} (hd : decode mt.2.1 pc = .ok (.iinc i j, 3)) (hl : r_lget L i = some (.int (nI (n + 1)))) (hj : Int32.ofInt j = -1) (hn : r_nl L i = true) (hlt : i < mt.2.2.1) (kk : Ru d mt a (pc + 3) ((i, some (.int (nI n))) :: L) st G M Q) : Ru d mt a pc L st G M Q := Ru_iinc _ hd hl (by rw [hj]; exact pk_m1 n) hn hlt kk
end RB
def shY : List (Nat × Nat) := [(12, 60), (100, 4), (100, 4), (101, 240), (102, 800), (100, 3250), (101, 130), (103, 200), (100, 6400), (100, 256), (100, 256), (100, 25), (100, 25), (100, 4), (100, 8), (100, 8), (100, 26), (100, 256), (100, 256), (103, 4), (103, 24), (100, 25)]
def frY (o k : Nat) : Option Nat := if o = 0 then (match k with
  | 4 => some 1
  | 5 => some 2
  | 6 => some 3
  | 7 => some 4
  | 22 => some 5
  | 23 => some 6
  | 24 => some 7
  | 26 => some 8
  | 27 => some 9
  | 28 => some 10
  | 30 => some 11
  | 31 => some 12
  | 32 => some 13
  | 33 => some 14
  | 34 => some 15
  | 35 => some 16
  | 36 => some 17
  | 48 => some 18
  | 49 => some 19
  | 51 => some 20
  | 58 => some 21
  | _ => none) else none
def GY : Wd := (shY, frY, false)
