-- WORDS AND TABLES: what the rules ask of the tables
abbrev Mt : Type := MethodName × ByteArray × Nat × Option FieldType
def r_W : List Cond := lw_tbl.filter goodWord
theorem r_W_of {w : Cond} (h : w ∈ lw_tbl) (g : goodWord w = true) : w ∈ r_W := List.mem_filter.mpr ⟨h, g⟩
def r_ws (mt : Mt) : List Cond := Cond.code mt.1 mt.2.1 mt.2.2.1 mt.2.2.2 :: r_W
theorem r_good {mt mt' : Mt} (h : Cond.code mt'.1 mt'.2.1 mt'.2.2.1 mt'.2.2.2 ∈ r_W) : GoodIn (r_ws mt) (r_ws mt') := by
  intro w hw
  rcases List.mem_cons.mp hw with rfl | hw
  · exact ⟨List.mem_cons_of_mem _ h, good_of_word (List.mem_filter.mp h).2⟩
  · exact ⟨List.mem_cons_of_mem _ hw, good_of_word (List.mem_filter.mp hw).2⟩
def r_ty (ci : Nat) : Nat → FieldType := match ci with
  | 0 => tyX0
  | 1 => tyX1
  | 2 => tyX2
  | 3 => tyX3
  | 4 => tyX4
  | 5 => tyX5
  | 6 => tyX6
  | 7 => tyX7
  | 8 => tyX8
  | 9 => tyX9
  | 10 => tyX10
  | 11 => tyX11
  | _ => tyX12
/-- the table of the objects of number ci -/
def r_cl (ci : Nat) (C : String) (T : u_T) (N : Nat) : Prop := vwCl[ci]? = some (C, T, N) ∧ (∀ w ∈ u_ws C T N, w ∈ r_W) ∧ (∀ k, k < N → parseFieldDescriptor (T k).2.2.1 = some (r_ty ci k)) ∧ (∀ a, a < N → ∀ b, b < N → a ≠ b → (T a).2.1 ≠ (T b).2.1) ∧ ci < 100
/-- entry idx of own's pool names field k of the objects of number ci -/
def r_fl (own : String) (idx ci k N : Nat) (t : FieldType) (fin : Bool) : Prop := ∃ (C : String) (T : u_T), r_cl ci C T N ∧ k < N ∧ Cond.fieldLink own idx (T k).1 (T k).2.1 (T k).2.2.1 ∈ r_W ∧ r_ty ci k = t ∧ (T k).2.2.2 = fin ∧ (T k).1 = C
/-- entry idx of own's pool names the method mt', of n parameters; its receiver is of number ci -/
def r_mc (own : String) (idx : Nat) (mt' : Mt) (n : Nat) : Prop := Cond.methodLink own idx mt'.1 ∈ r_W ∧ Cond.initialized mt'.1.cls ∈ r_W ∧ Cond.code mt'.1 mt'.2.1 mt'.2.2.1 mt'.2.2.2 ∈ r_W ∧ (mt'.1.cls ≠ "java/lang/invoke/MethodHandle" ∧ mt'.1.cls ≠ "java/lang/invoke/VarHandle" ∧ (parseMethodDescriptor mt'.1.desc).map (fun d => d.parameters.length) = some n) ∧ mt'.2.2.1 ≤ 29
def r_mv (own : String) (idx : Nat) (mt' : Mt) (n ci N : Nat) : Prop := r_mc own idx mt' n ∧ Cond.instanceMethod mt'.1 ∈ r_W ∧ Cond.selects mt'.1.cls mt'.1 mt'.1 ∈ r_W ∧ (∃ T, vwCl[ci]? = some (mt'.1.cls, T, N)) ∧ ci < 100
def r_ms (own : String) (idx : Nat) (mt' : Mt) (n : Nat) : Prop := r_mc own idx mt' n ∧ Cond.static mt'.1 ∈ r_W
