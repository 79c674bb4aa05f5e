-- THE WORLD OF THE DEVELOPERS' OBJECT
def shX_0 : List (Nat × Nat) := [(11, 14), (105, 4), (104, 4), (9, 21), (3, 3), (101, 12), (3, 3), (101, 12), (100, 12), (100, 12), (100, 12), (100, 12), (100, 12), (3, 3), (101, 12), (100, 6), (100, 6), (100, 8), (100, 8), (100, 8), (100, 8), (100, 26), (2, 6), (100, 8), (100, 8), (100, 300), (5, 6), (100, 24), (100, 24), (100, 24), (100, 24), (2, 6), (100, 8), (100, 8), (100, 300), (5, 6), (100, 24), (100, 24), (100, 24), (100, 24)]
def shX_1 : List (Nat × Nat) := [(8, 9), (102, 800), (101, 28), (100, 801), (100, 801), (101, 801), (4, 9), (100, 8), (100, 13), (100, 729), (100, 729), (100, 729), (100, 729), (7, 2), (100, 8), (0, 15), (100, 6400), (100, 2304), (100, 2304), (100, 9), (100, 9), (6, 3), (100, 24), (100, 24), (100, 4), (100, 256), (103, 256), (1, 13), (100, 26), (100, 4), (6, 3), (100, 24), (103, 24), (100, 25), (100, 26), (10, 3), (101, 60), (10, 3), (101, 60), (10, 3)]
def shX_2 : List (Nat × Nat) := [(101, 60), (10, 3), (101, 60), (9, 21), (3, 3), (101, 12), (3, 3), (101, 12), (100, 12), (100, 12), (100, 12), (100, 12), (100, 12), (3, 3), (101, 12), (100, 6), (100, 6), (100, 8), (100, 8), (100, 8), (100, 8), (100, 26), (2, 6), (100, 8), (100, 8), (100, 300), (5, 6), (100, 24), (100, 24), (100, 24), (100, 24), (9, 21), (3, 3), (101, 12), (3, 3), (101, 12), (100, 12), (100, 12), (100, 12), (100, 12)]
def shX_3 : List (Nat × Nat) := [(100, 12), (3, 3), (101, 12), (100, 6), (100, 6), (100, 8), (100, 8), (100, 8), (100, 8), (100, 26), (2, 6), (100, 8), (100, 8), (100, 300), (5, 6), (100, 24), (100, 24), (100, 24), (100, 24), (9, 21), (3, 3), (101, 12), (3, 3), (101, 12), (100, 12), (100, 12), (100, 12), (100, 12), (100, 12), (3, 3), (101, 12), (100, 6), (100, 6), (100, 8), (100, 8), (100, 8), (100, 8), (100, 26), (2, 6), (100, 8)]
def shX_4 : List (Nat × Nat) := [(100, 8), (100, 300), (5, 6), (100, 24), (100, 24), (100, 24), (100, 24), (9, 21), (3, 3), (101, 12), (3, 3), (101, 12), (100, 12), (100, 12), (100, 12), (100, 12), (100, 12), (3, 3), (101, 12), (100, 6), (100, 6), (100, 8), (100, 8), (100, 8), (100, 8), (100, 26), (2, 6), (100, 8), (100, 8), (100, 300), (5, 6), (100, 24), (100, 24), (100, 24), (100, 24)]
def shX : List (Nat × Nat) := shX_0 ++ (shX_1 ++ (shX_2 ++ (shX_3 ++ shX_4)))
def offX (ci k : Nat) : Option Nat := match ci, k with
  | 0, 1 => some 1
  | 0, 2 => some 2
  | 0, 3 => some 3
  | 0, 4 => some 4
  | 0, 5 => some 5
  | 0, 6 => some 6
  | 0, 8 => some 7
  | 0, 9 => some 8
  | 0, 12 => some 9
  | 0, 13 => some 10
  | 0, 14 => some 11
  | 1, 5 => some 1
  | 1, 7 => some 2
  | 1, 8 => some 3
  | 1, 9 => some 4
  | 1, 10 => some 5
  | 1, 11 => some 6
  | 1, 12 => some 7
  | 2, 1 => some 1
  | 2, 2 => some 2
  | 2, 3 => some 3
  | 3, 1 => some 1
  | 4, 1 => some 1
  | 4, 3 => some 2
  | 4, 5 => some 3
  | 4, 6 => some 4
  | 4, 7 => some 5
  | 4, 8 => some 6
  | 5, 2 => some 1
  | 5, 3 => some 2
  | 5, 4 => some 3
  | 5, 5 => some 4
  | 7, 0 => some 1
  | 8, 0 => some 1
  | 8, 2 => some 2
  | 8, 3 => some 3
  | 8, 4 => some 4
  | 8, 5 => some 5
  | 9, 0 => some 1
  | 9, 3 => some 3
  | 9, 4 => some 5
  | 9, 5 => some 6
  | 9, 6 => some 7
  | 9, 7 => some 8
  | 9, 8 => some 9
  | 9, 9 => some 10
  | 9, 10 => some 12
  | 9, 11 => some 13
  | 9, 13 => some 14
  | 9, 14 => some 15
  | 9, 15 => some 16
  | 9, 17 => some 17
  | 9, 18 => some 18
  | 10, 2 => some 1
  | 11, 3 => some 1
  | 11, 4 => some 2
  | 11, 9 => some 40
  | 11, 10 => some 46
  | 11, 11 => some 53
  | 11, 12 => some 55
  | 11, 13 => some 67
  | _, _ => none
def frX (o k : Nat) : Option Nat := match shX[o]? with
  | some sh => (offX sh.1 k).map (fun j => o + j)
  | none => none
def GX : Wd := (shX, frX, false)
theorem frX_of {o ci N k j : Nat} (h : shX[o]? = some (ci, N)) (h2 : offX ci k = some j) : frX o k = some (o + j) := by
  unfold frX
  rw [h]
  simp [h2]
theorem rfX_of {o ci N k j : Nat} {M : Mem} (h : shX[o]? = some (ci, N)) (h2 : offX ci k = some j) : r_rf GX M o k = some (o + j) := by
  unfold r_rf
  rw [show GX.2.1 o k = some (o + j) from frX_of h h2]
theorem rfX_mut {o ci N k : Nat} {M : Mem} (h : shX[o]? = some (ci, N)) (h2 : offX ci k = none) : r_rf GX M o k = M.2.2 o k := by
  unfold r_rf
  have : GX.2.1 o k = none := by
    show frX o k = none
    unfold frX
    rw [h]
    simp [h2]
  rw [this]
theorem frX_none {o ci N k : Nat} (h : shX[o]? = some (ci, N)) (h2 : offX ci k = none) : frX o k = none := by
  unfold frX
  rw [h]
  simp [h2]
def isTown (t : Nat) : Prop := t = 3 ∨ t = 83 ∨ t = 111 ∨ t = 139 ∨ t = 167
theorem shTown_0 {t : Nat} (h : isTown t) : shX[t]? = some (9, 21) := by rcases h with rfl | rfl | rfl | rfl | rfl <;> rfl
theorem shTown_1 {t : Nat} (h : isTown t) : shX[t + 1]? = some (3, 3) := by rcases h with rfl | rfl | rfl | rfl | rfl <;> rfl
theorem shTown_2 {t : Nat} (h : isTown t) : shX[t + 2]? = some (101, 12) := by rcases h with rfl | rfl | rfl | rfl | rfl <;> rfl
theorem shTown_3 {t : Nat} (h : isTown t) : shX[t + 3]? = some (3, 3) := by rcases h with rfl | rfl | rfl | rfl | rfl <;> rfl
theorem shTown_4 {t : Nat} (h : isTown t) : shX[t + 4]? = some (101, 12) := by rcases h with rfl | rfl | rfl | rfl | rfl <;> rfl
theorem shTown_5 {t : Nat} (h : isTown t) : shX[t + 5]? = some (100, 12) := by rcases h with rfl | rfl | rfl | rfl | rfl <;> rfl
theorem shTown_6 {t : Nat} (h : isTown t) : shX[t + 6]? = some (100, 12) := by rcases h with rfl | rfl | rfl | rfl | rfl <;> rfl
theorem shTown_7 {t : Nat} (h : isTown t) : shX[t + 7]? = some (100, 12) := by rcases h with rfl | rfl | rfl | rfl | rfl <;> rfl
theorem shTown_8 {t : Nat} (h : isTown t) : shX[t + 8]? = some (100, 12) := by rcases h with rfl | rfl | rfl | rfl | rfl <;> rfl
theorem shTown_9 {t : Nat} (h : isTown t) : shX[t + 9]? = some (100, 12) := by rcases h with rfl | rfl | rfl | rfl | rfl <;> rfl
theorem shTown_10 {t : Nat} (h : isTown t) : shX[t + 10]? = some (3, 3) := by rcases h with rfl | rfl | rfl | rfl | rfl <;> rfl
theorem shTown_11 {t : Nat} (h : isTown t) : shX[t + 11]? = some (101, 12) := by rcases h with rfl | rfl | rfl | rfl | rfl <;> rfl
theorem shTown_12 {t : Nat} (h : isTown t) : shX[t + 12]? = some (100, 6) := by rcases h with rfl | rfl | rfl | rfl | rfl <;> rfl
theorem shTown_13 {t : Nat} (h : isTown t) : shX[t + 13]? = some (100, 6) := by rcases h with rfl | rfl | rfl | rfl | rfl <;> rfl
theorem shTown_14 {t : Nat} (h : isTown t) : shX[t + 14]? = some (100, 8) := by rcases h with rfl | rfl | rfl | rfl | rfl <;> rfl
theorem shTown_15 {t : Nat} (h : isTown t) : shX[t + 15]? = some (100, 8) := by rcases h with rfl | rfl | rfl | rfl | rfl <;> rfl
theorem shTown_16 {t : Nat} (h : isTown t) : shX[t + 16]? = some (100, 8) := by rcases h with rfl | rfl | rfl | rfl | rfl <;> rfl
theorem shTown_17 {t : Nat} (h : isTown t) : shX[t + 17]? = some (100, 8) := by rcases h with rfl | rfl | rfl | rfl | rfl <;> rfl
theorem shTown_18 {t : Nat} (h : isTown t) : shX[t + 18]? = some (100, 26) := by rcases h with rfl | rfl | rfl | rfl | rfl <;> rfl
def isLaw (t : Nat) : Prop := t = 22 ∨ t = 31 ∨ t = 102 ∨ t = 130 ∨ t = 158 ∨ t = 186
theorem shLaw_0 {t : Nat} (h : isLaw t) : shX[t]? = some (2, 6) := by rcases h with rfl | rfl | rfl | rfl | rfl | rfl <;> rfl
theorem shLaw_1 {t : Nat} (h : isLaw t) : shX[t + 1]? = some (100, 8) := by rcases h with rfl | rfl | rfl | rfl | rfl | rfl <;> rfl
theorem shLaw_2 {t : Nat} (h : isLaw t) : shX[t + 2]? = some (100, 8) := by rcases h with rfl | rfl | rfl | rfl | rfl | rfl <;> rfl
theorem shLaw_3 {t : Nat} (h : isLaw t) : shX[t + 3]? = some (100, 300) := by rcases h with rfl | rfl | rfl | rfl | rfl | rfl <;> rfl
def isPlan (t : Nat) : Prop := t = 26 ∨ t = 35 ∨ t = 106 ∨ t = 134 ∨ t = 162 ∨ t = 190
theorem shPlan_0 {t : Nat} (h : isPlan t) : shX[t]? = some (5, 6) := by rcases h with rfl | rfl | rfl | rfl | rfl | rfl <;> rfl
theorem shPlan_1 {t : Nat} (h : isPlan t) : shX[t + 1]? = some (100, 24) := by rcases h with rfl | rfl | rfl | rfl | rfl | rfl <;> rfl
theorem shPlan_2 {t : Nat} (h : isPlan t) : shX[t + 2]? = some (100, 24) := by rcases h with rfl | rfl | rfl | rfl | rfl | rfl <;> rfl
theorem shPlan_3 {t : Nat} (h : isPlan t) : shX[t + 3]? = some (100, 24) := by rcases h with rfl | rfl | rfl | rfl | rfl | rfl <;> rfl
theorem shPlan_4 {t : Nat} (h : isPlan t) : shX[t + 4]? = some (100, 24) := by rcases h with rfl | rfl | rfl | rfl | rfl | rfl <;> rfl
def isTray (t : Nat) : Prop := t = 75 ∨ t = 77 ∨ t = 79 ∨ t = 81
theorem shTray_0 {t : Nat} (h : isTray t) : shX[t]? = some (10, 3) := by rcases h with rfl | rfl | rfl | rfl <;> rfl
theorem shTray_1 {t : Nat} (h : isTray t) : shX[t + 1]? = some (101, 60) := by rcases h with rfl | rfl | rfl | rfl <;> rfl
def isNames (t : Nat) : Prop := t = 4 ∨ t = 6 ∨ t = 13 ∨ t = 84 ∨ t = 86 ∨ t = 93 ∨ t = 112 ∨ t = 114 ∨ t = 121 ∨ t = 140 ∨ t = 142 ∨ t = 149 ∨ t = 168 ∨ t = 170 ∨ t = 177
theorem shNames_0 {t : Nat} (h : isNames t) : shX[t]? = some (3, 3) := by rcases h with rfl | rfl | rfl | rfl | rfl | rfl | rfl | rfl | rfl | rfl | rfl | rfl | rfl | rfl | rfl <;> rfl
theorem shNames_1 {t : Nat} (h : isNames t) : shX[t + 1]? = some (101, 12) := by rcases h with rfl | rfl | rfl | rfl | rfl | rfl | rfl | rfl | rfl | rfl | rfl | rfl | rfl | rfl | rfl <;> rfl
theorem isNames_t {t : Nat} (h : isTown t) : isNames (t + 1) ∧ isNames (t + 3) ∧ isNames (t + 10) := by rcases h with rfl | rfl | rfl | rfl | rfl <;> simp [isNames]
