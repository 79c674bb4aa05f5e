-- THE SHELF
def isShelf (o : Nat) : Prop := o = 61 ∨ o = 70
theorem shShelf_0 {o : Nat} (h : isShelf o) : shX[o]? = some (6, 3) := by rcases h with rfl | rfl <;> rfl

theorem c_X6_begin_61 {Q : Rq} {M : Mem} {s : Nat} (k : ∀ M', r_fx [(61, 0), (61, 1), (61, 2)] [] M M' → M'.1 61 0 = nI s → M'.1 61 1 = nI 0 → M'.1 61 2 = nI 0 → Q none GX M') : Ca 0 mt_X6_begin 0 0 [.ref 61, .int (nI s)] GX M Q := by
  refine Ca_of rfl (Nat.le_of_ble_eq_true rfl) ?_
  refine Ru_aload_n (pc := 0) dX6_begin_0 rfl rfl ?_
  refine Ru_iload_n (pc := 1) dX6_begin_1 rfl rfl ?_
  refine Ru_putI (pc := 2) rfl dX6_begin_2 fl_X6_7 rfl ?_
  refine Ru_aload_n (pc := 5) dX6_begin_5 rfl rfl ?_
  refine Ru_iconst (pc := 6) (nI 0) dX6_begin_6 rfl ?_
  refine Ru_putI (pc := 7) rfl dX6_begin_7 fl_X6_13 rfl ?_
  refine Ru_aload_n (pc := 10) dX6_begin_10 rfl rfl ?_
  refine Ru_iconst (pc := 11) (nI 0) dX6_begin_11 rfl ?_
  refine Ru_putI (pc := 12) rfl dX6_begin_12 fl_X6_16 rfl ?_
  refine Ru_vret (pc := 15) dX6_begin_15 rfl ⟨Nat.le_refl _, Nat.le_refl _⟩ ?_
  exact k _ (r_fx.sI rfl (r_fx.sI rfl (r_fx.sI rfl r_fx.rf))) (by simp [r_sI_g]) (by simp [r_sI_g]) (by simp [r_sI_g])

theorem l_X6_serve_61 {Q : Rq} {M0 : Mem} {t f t2 : Nat} {d : Td} (ht : isTown t) (hx0 : X_tm t d M0) (wf : Wf d) (hf2 : t2 < 26) (pf : Sh) (k : ∀ M', r_fx [(61, 0), (61, 1), (61, 2)] [] M0 M' → M'.1 61 0 = nI pf.1 → M'.1 61 1 = nI pf.2.1 → M'.1 61 2 = nI pf.2.2 → Q none GX M') : ∀ (zw : Nat) (l : List Nat) (i : Nat) (p : Sh) (M : Mem), l.length = zw → (∀ j, j < l.length → (ordH d 25).getD (i + j) 0 = l.getD j 0) → (∀ w, w ∈ l → w < d 3) → (i + l.length = (ordH d t2).length) → (wAll1 d p l = pf) → (M.1 61 0 = nI p.1) → (M.1 61 1 = nI p.2.1) → (M.1 61 2 = nI p.2.2) → (r_fx [(61, 0), (61, 1), (61, 2)] [] M0 M) → Ru 0 mt_X6_serve r_z 8 [(4, some (.int (nI i))), (0, some (.ref 61)), (1, some (.ref t)), (2, some (.int (nI f))), (3, some (.int (nI t2)))] [] GX M Q := by
  intro zw
  induction zw using Nat.strongRecOn with
  | ind zw ih =>
    intro l i p M hw hg hl he hp h0 hw1 hh2 fx
    subst hw
    have hb := wf.1
    have hT : t = 3 ∨ t = 83 ∨ t = 111 ∨ t = 139 ∨ t = 167 := ht
    have hx : X_tm t d M := (X_tm_dp ht d).kp fx rfl hx0
    have hlt2 := ordH_le d t2
    refine Ru_iload (pc := 8) dX6_serve_8 rfl ?_
    refine Ru_aload_n (pc := 10) dX6_serve_10 rfl rfl ?_
    refine Ru_getR (pc := 11) (t + 18) dX6_serve_11 fl_X6_19 (shTown_0 ht) rfl (rfX_of (o := t) (j := 18) (shTown_0 ht) rfl) ?_
    refine Ru_iload_n (pc := 14) dX6_serve_14 rfl rfl ?_
    refine Ru_iald (pc := 15) dX6_serve_15 (shTown_18 ht) (by omega) ?_
    refine Ru_top (hx.2.2.2.2.2.2 t2 (by omega)) ?_
    refine Ru_icmp_geN (pc := 16) 106 dX6_serve_16 (by decide) (by omega) (fun h1 => ?_) (fun h1 => ?_)
    · refine Ru_vret (pc := 106) dX6_serve_106 rfl ⟨Nat.le_refl _, Nat.le_refl _⟩ ?_
      have el : l = [] := List.eq_nil_of_length_eq_zero (by omega)
      subst el
      have hp2 : p = pf := hp
      subst hp2
      exact k _ fx h0 hw1 hh2
    · obtain ⟨w, l', rfl⟩ : ∃ w l', l = w :: l' := by
        cases l with
        | nil =>
          simp at he
          omega
        | cons w l' => exact ⟨w, l', rfl⟩
      have hwd : w < d 3 := hl w (List.mem_cons_self ..)
      have hgi : (ordH d 25).getD i 0 = w := by
        have := hg 0 (by simp)
        simpa using this
      have hw7 := wf.2.2.2.2.2.2 w hwd
      simp at he
      have hi3 : i < d 3 := by
        have := ordH_le d t2
        omega
      have heL : ∀ j, j < 8 → (fun j => d (131 + j)) j ≤ 1 := fun j hj => (wf.2.1 j hj).2.2.2
      have hbit := bt_tb (f := fun j => d (131 + j)) (n := 8) (t := w) heL (by omega)
      refine Ru_aload_n (pc := 19) dX6_serve_19 rfl rfl ?_
      refine Ru_getR (pc := 20) (t + 17) dX6_serve_20 fl_X6_25 (shTown_0 ht) rfl (rfX_of (o := t) (j := 17) (shTown_0 ht) rfl) ?_
      refine Ru_iload (pc := 23) dX6_serve_23 rfl ?_
      refine Ru_iald (pc := 25) dX6_serve_25 (shTown_17 ht) (by omega) ?_
      refine Ru_top (((hx).2.2.2.2.2.1 i (by omega)).trans (congrArg nI hgi)) ?_
      refine Ru_istore (pc := 26) dX6_serve_26 rfl (by decide) ?_
      refine Ru_iconst (pc := 28) (nI 1) dX6_serve_28 rfl ?_
      refine Ru_aload_n (pc := 29) dX6_serve_29 rfl rfl ?_
      refine Ru_getR (pc := 30) (t + 14) dX6_serve_30 fl_X6_28 (shTown_0 ht) rfl (rfX_of (o := t) (j := 14) (shTown_0 ht) rfl) ?_
      refine Ru_iload (pc := 33) dX6_serve_33 rfl ?_
      refine Ru_iald (pc := 35) dX6_serve_35 (shTown_14 ht) (by omega) ?_
      refine Ru_top (hx.2.2.2.2.1 w (by omega)).1 ?_
      refine Ru_ishl1N (pc := 36) dX6_serve_36 (by omega) ?_
      refine Ru_istore (pc := 37) dX6_serve_37 rfl (by decide) ?_
      refine Ru_aload_n (pc := 39) dX6_serve_39 rfl rfl ?_
      refine Ru_getI (pc := 40) dX6_serve_40 fl_X6_7 rfl rfl ?_
      refine Ru_top h0 ?_
      refine Ru_iload (pc := 43) dX6_serve_43 rfl ?_
      refine Ru_iandN (pc := 45) dX6_serve_45 ?_
      refine Ru_if_eqN (pc := 46) 100 dX6_serve_46 (by decide) (Nat.lt_of_le_of_lt Nat.and_le_right (Nat.lt_of_le_of_lt (Nat.pow_le_pow_right (n := 2) (by decide) (show d (107 + w) ≤ 8 by omega)) (by decide))) (fun h2 => ?_) (fun h2 => ?_)
      · have hin : p.1.testBit (d (107 + w)) = false := by
          rw [and_p2] at h2
          cases hq : p.1.testBit (d (107 + w))
          · rfl
          · rw [hq, if_pos rfl] at h2
            have := Nat.two_pow_pos (d (107 + w))
            omega
        refine Ru_iincN (pc := 100) 1 dX6_serve_100 rfl rfl rfl (by decide) ?_
        refine Ru_goto (pc := 103) 8 dX6_serve_103 (by decide) ?_
        have e : wSat d p w = p := by
          unfold wSat
          rw [if_neg (by simp_all)]
        have hlen : (List.length l') < (w :: l').length := by simp
        exact Ru_weak (ih l'.length hlen l' (i + 1) (wSat d p w) _ rfl (fun j hj => by have := hg (j + 1) (by simp; omega); rw [show i + 1 + j = i + (j + 1) by omega]; simpa using this) (fun z hz => hl z (List.mem_cons_of_mem _ hz)) (by omega) (by rw [← hp]; rfl) (by rw [e]; exact h0) (by rw [e]; exact hw1) (by rw [e]; exact hh2) fx) rfl
      · have hin : p.1.testBit (d (107 + w)) = true := by
          rw [and_p2] at h2
          cases hq : p.1.testBit (d (107 + w))
          · rw [hq, if_neg (by decide)] at h2
            exact absurd rfl h2
          · rfl
        refine Ru_aload_n (pc := 49) dX6_serve_49 rfl rfl ?_
        refine Ru_dup (pc := 50) dX6_serve_50 rfl ?_
        refine Ru_getI (pc := 51) dX6_serve_51 fl_X6_13 rfl rfl ?_
        refine Ru_top hw1 ?_
        refine Ru_aload_n (pc := 54) dX6_serve_54 rfl rfl ?_
        refine Ru_getR (pc := 55) (t + 16) dX6_serve_55 fl_X6_31 (shTown_0 ht) rfl (rfX_of (o := t) (j := 16) (shTown_0 ht) rfl) ?_
        refine Ru_iload (pc := 58) dX6_serve_58 rfl ?_
        refine Ru_iald (pc := 60) dX6_serve_60 (shTown_16 ht) (by omega) ?_
        refine Ru_top (hx.2.2.2.2.1 w (by omega)).2.2 ?_
        refine Ru_iaddN (pc := 61) dX6_serve_61 ?_
        refine Ru_putI (pc := 62) rfl dX6_serve_62 fl_X6_13 rfl ?_
        refine Ru_aload_n (pc := 65) dX6_serve_65 rfl rfl ?_
        refine Ru_dup (pc := 66) dX6_serve_66 rfl ?_
        refine Ru_getI (pc := 67) dX6_serve_67 fl_X6_16 rfl rfl ?_
        refine Ru_top ((r_sI_n (by decide)).trans hh2) ?_
        refine Ru_iconst (pc := 70) (nI 1) dX6_serve_70 rfl ?_
        refine Ru_iaddN (pc := 71) dX6_serve_71 ?_
        refine Ru_putI (pc := 72) rfl dX6_serve_72 fl_X6_16 rfl ?_
        refine Ru_aload_n (pc := 75) dX6_serve_75 rfl rfl ?_
        refine Ru_getI (pc := 76) dX6_serve_76 fl_X6_34 (shTown_0 ht) rfl ?_
        refine Ru_top ((r_sI_n (by omega)).trans ((r_sI_n (by omega)).trans hx.2.1.2.2)) ?_
        refine Ru_iload (pc := 79) dX6_serve_79 rfl ?_
        refine Ru_ishrN (pc := 81) dX6_serve_81 ⟨Nat.lt_of_lt_of_le (bt_lt (n := 8) heL) (by decide), by omega⟩ ?_
        refine Ru_iconst (pc := 82) (nI 1) dX6_serve_82 rfl ?_
        refine Ru_iandN (pc := 83) dX6_serve_83 ?_
        refine Ru_if_eqN (pc := 84) 100 dX6_serve_84 (by decide) (Nat.lt_of_le_of_lt Nat.and_le_right (by decide)) (fun h3 => ?_) (fun h3 => ?_)
        · have h3b := r_b1_f h3
          have heat : ¬ d (131 + w) = 1 := fun z => by
            rw [hbit] at h3b
            exact of_decide_eq_false h3b z
          refine Ru_iincN (pc := 100) 1 dX6_serve_100 rfl rfl rfl (by decide) ?_
          refine Ru_goto (pc := 103) 8 dX6_serve_103 (by decide) ?_
          have e : wSat d p w = (p.1, p.2.1 + d (123 + w), p.2.2 + 1) := by
            unfold wSat
            rw [if_pos (by assumption), if_neg (by assumption)]
          have hlen : (List.length l') < (w :: l').length := by simp
          exact Ru_weak (ih l'.length hlen l' (i + 1) (wSat d p w) _ rfl (fun j hj => by have := hg (j + 1) (by simp; omega); rw [show i + 1 + j = i + (j + 1) by omega]; simpa using this) (fun z hz => hl z (List.mem_cons_of_mem _ hz)) (by omega) (by rw [← hp]; rfl) (by rw [e]; simp [r_sI_g]; exact h0) (by rw [e]; simp [r_sI_g]) (by rw [e]; simp [r_sI_g]) (r_fx.sI rfl (r_fx.sI rfl fx))) rfl
        · have h3b := r_b1_t h3
          have heat : d (131 + w) = 1 := by
            rw [hbit] at h3b
            exact of_decide_eq_true h3b
          refine Ru_aload_n (pc := 87) dX6_serve_87 rfl rfl ?_
          refine Ru_dup (pc := 88) dX6_serve_88 rfl ?_
          refine Ru_getI (pc := 89) dX6_serve_89 fl_X6_7 rfl rfl ?_
          refine Ru_top ((r_sI_n (by decide)).trans ((r_sI_n (by decide)).trans h0)) ?_
          refine Ru_iload (pc := 92) dX6_serve_92 rfl ?_
          refine Ru_iconst (pc := 94) (-1) dX6_serve_94 rfl ?_
          refine Ru_ixor (pc := 95) dX6_serve_95 ?_
          refine Ru_idifN (pc := 96) dX6_serve_96 ?_
          refine Ru_putI (pc := 97) rfl dX6_serve_97 fl_X6_7 rfl ?_
          refine Ru_iincN (pc := 100) 1 dX6_serve_100 rfl rfl rfl (by decide) ?_
          refine Ru_goto (pc := 103) 8 dX6_serve_103 (by decide) ?_
          have e : wSat d p w = (r_dif p.1 (2 ^ d (107 + w)), p.2.1 + d (123 + w), p.2.2 + 1) := by
            unfold wSat
            rw [if_pos (by assumption), if_pos (by assumption)]
          have hlen : (List.length l') < (w :: l').length := by simp
          exact Ru_weak (ih l'.length hlen l' (i + 1) (wSat d p w) _ rfl (fun j hj => by have := hg (j + 1) (by simp; omega); rw [show i + 1 + j = i + (j + 1) by omega]; simpa using this) (fun z hz => hl z (List.mem_cons_of_mem _ hz)) (by omega) (by rw [← hp]; rfl) (by rw [e]; simp [r_sI_g]) (by rw [e]; simp [r_sI_g]) (by rw [e]; simp [r_sI_g]) (r_fx.sI rfl (r_fx.sI rfl (r_fx.sI rfl fx)))) rfl

theorem c_X6_serve_61 {Q : Rq} {M : Mem} {t f n : Nat} {d : Td} (p : Sh) (ht : isTown t) (hx0 : X_tm t d M) (wf : Wf d) (hf : f + n ≤ 25) (h0 : M.1 61 0 = nI p.1) (h1 : M.1 61 1 = nI p.2.1) (h2 : M.1 61 2 = nI p.2.2) (k : ∀ M', r_fx [(61, 0), (61, 1), (61, 2)] [] M M' → M'.1 61 0 = nI (wR d p f n).1 → M'.1 61 1 = nI (wR d p f n).2.1 → M'.1 61 2 = nI (wR d p f n).2.2 → Q none GX M') : Ca 0 mt_X6_serve 0 0 [.ref 61, .ref t, .int (nI f), .int (nI (f + n))] GX M Q := by
  refine Ca_of rfl (Nat.le_of_ble_eq_true rfl) ?_
  refine Ru_aload_n (pc := 0) dX6_serve_0 rfl rfl ?_
  refine Ru_getR (pc := 1) (t + 18) dX6_serve_1 fl_X6_19 (shTown_0 ht) rfl (rfX_of (o := t) (j := 18) (shTown_0 ht) rfl) ?_
  refine Ru_iload_n (pc := 4) dX6_serve_4 rfl rfl ?_
  refine Ru_iald (pc := 5) dX6_serve_5 (shTown_18 ht) (by omega) ?_
  refine Ru_top (hx0.2.2.2.2.2.2 f (by omega)) ?_
  refine Ru_istore (pc := 6) dX6_serve_6 rfl (by decide) ?_
  exact Ru_weak (l_X6_serve_61 (M0 := M) (f := f) (t2 := f + n) ht hx0 wf (by omega) (wR d p f n) k _ (oSeg d f n) _ p M rfl (fun j hj => oSeg_get hf hj) (fun w hw => oSeg_lt hw) (ordH_mono d f n) (wR_seg d p f n).symm h0 h1 h2 r_fx.rf) rfl

theorem c_X6_begin_70 {Q : Rq} {M : Mem} {s : Nat} (k : ∀ M', r_fx [(70, 0), (70, 1), (70, 2)] [] M M' → M'.1 70 0 = nI s → M'.1 70 1 = nI 0 → M'.1 70 2 = nI 0 → Q none GX M') : Ca 0 mt_X6_begin 0 0 [.ref 70, .int (nI s)] GX M Q := by
  refine Ca_of rfl (Nat.le_of_ble_eq_true rfl) ?_
  refine Ru_aload_n (pc := 0) dX6_begin_0 rfl rfl ?_
  refine Ru_iload_n (pc := 1) dX6_begin_1 rfl rfl ?_
  refine Ru_putI (pc := 2) rfl dX6_begin_2 fl_X6_7 rfl ?_
  refine Ru_aload_n (pc := 5) dX6_begin_5 rfl rfl ?_
  refine Ru_iconst (pc := 6) (nI 0) dX6_begin_6 rfl ?_
  refine Ru_putI (pc := 7) rfl dX6_begin_7 fl_X6_13 rfl ?_
  refine Ru_aload_n (pc := 10) dX6_begin_10 rfl rfl ?_
  refine Ru_iconst (pc := 11) (nI 0) dX6_begin_11 rfl ?_
  refine Ru_putI (pc := 12) rfl dX6_begin_12 fl_X6_16 rfl ?_
  refine Ru_vret (pc := 15) dX6_begin_15 rfl ⟨Nat.le_refl _, Nat.le_refl _⟩ ?_
  exact k _ (r_fx.sI rfl (r_fx.sI rfl (r_fx.sI rfl r_fx.rf))) (by simp [r_sI_g]) (by simp [r_sI_g]) (by simp [r_sI_g])

theorem l_X6_serve_70 {Q : Rq} {M0 : Mem} {t f t2 : Nat} {d : Td} (ht : isTown t) (hx0 : X_tm t d M0) (wf : Wf d) (hf2 : t2 < 26) (pf : Sh) (k : ∀ M', r_fx [(70, 0), (70, 1), (70, 2)] [] M0 M' → M'.1 70 0 = nI pf.1 → M'.1 70 1 = nI pf.2.1 → M'.1 70 2 = nI pf.2.2 → Q none GX M') : ∀ (zw : Nat) (l : List Nat) (i : Nat) (p : Sh) (M : Mem), l.length = zw → (∀ j, j < l.length → (ordH d 25).getD (i + j) 0 = l.getD j 0) → (∀ w, w ∈ l → w < d 3) → (i + l.length = (ordH d t2).length) → (wAll1 d p l = pf) → (M.1 70 0 = nI p.1) → (M.1 70 1 = nI p.2.1) → (M.1 70 2 = nI p.2.2) → (r_fx [(70, 0), (70, 1), (70, 2)] [] M0 M) → Ru 0 mt_X6_serve r_z 8 [(4, some (.int (nI i))), (0, some (.ref 70)), (1, some (.ref t)), (2, some (.int (nI f))), (3, some (.int (nI t2)))] [] GX M Q := by
  intro zw
  induction zw using Nat.strongRecOn with
  | ind zw ih =>
    intro l i p M hw hg hl he hp h0 hw1 hh2 fx
    subst hw
    have hb := wf.1
    have hT : t = 3 ∨ t = 83 ∨ t = 111 ∨ t = 139 ∨ t = 167 := ht
    have hx : X_tm t d M := (X_tm_dp ht d).kp fx rfl hx0
    have hlt2 := ordH_le d t2
    refine Ru_iload (pc := 8) dX6_serve_8 rfl ?_
    refine Ru_aload_n (pc := 10) dX6_serve_10 rfl rfl ?_
    refine Ru_getR (pc := 11) (t + 18) dX6_serve_11 fl_X6_19 (shTown_0 ht) rfl (rfX_of (o := t) (j := 18) (shTown_0 ht) rfl) ?_
    refine Ru_iload_n (pc := 14) dX6_serve_14 rfl rfl ?_
    refine Ru_iald (pc := 15) dX6_serve_15 (shTown_18 ht) (by omega) ?_
    refine Ru_top (hx.2.2.2.2.2.2 t2 (by omega)) ?_
    refine Ru_icmp_geN (pc := 16) 106 dX6_serve_16 (by decide) (by omega) (fun h1 => ?_) (fun h1 => ?_)
    · refine Ru_vret (pc := 106) dX6_serve_106 rfl ⟨Nat.le_refl _, Nat.le_refl _⟩ ?_
      have el : l = [] := List.eq_nil_of_length_eq_zero (by omega)
      subst el
      have hp2 : p = pf := hp
      subst hp2
      exact k _ fx h0 hw1 hh2
    · obtain ⟨w, l', rfl⟩ : ∃ w l', l = w :: l' := by
        cases l with
        | nil =>
          simp at he
          omega
        | cons w l' => exact ⟨w, l', rfl⟩
      have hwd : w < d 3 := hl w (List.mem_cons_self ..)
      have hgi : (ordH d 25).getD i 0 = w := by
        have := hg 0 (by simp)
        simpa using this
      have hw7 := wf.2.2.2.2.2.2 w hwd
      simp at he
      have hi3 : i < d 3 := by
        have := ordH_le d t2
        omega
      have heL : ∀ j, j < 8 → (fun j => d (131 + j)) j ≤ 1 := fun j hj => (wf.2.1 j hj).2.2.2
      have hbit := bt_tb (f := fun j => d (131 + j)) (n := 8) (t := w) heL (by omega)
      refine Ru_aload_n (pc := 19) dX6_serve_19 rfl rfl ?_
      refine Ru_getR (pc := 20) (t + 17) dX6_serve_20 fl_X6_25 (shTown_0 ht) rfl (rfX_of (o := t) (j := 17) (shTown_0 ht) rfl) ?_
      refine Ru_iload (pc := 23) dX6_serve_23 rfl ?_
      refine Ru_iald (pc := 25) dX6_serve_25 (shTown_17 ht) (by omega) ?_
      refine Ru_top (((hx).2.2.2.2.2.1 i (by omega)).trans (congrArg nI hgi)) ?_
      refine Ru_istore (pc := 26) dX6_serve_26 rfl (by decide) ?_
      refine Ru_iconst (pc := 28) (nI 1) dX6_serve_28 rfl ?_
      refine Ru_aload_n (pc := 29) dX6_serve_29 rfl rfl ?_
      refine Ru_getR (pc := 30) (t + 14) dX6_serve_30 fl_X6_28 (shTown_0 ht) rfl (rfX_of (o := t) (j := 14) (shTown_0 ht) rfl) ?_
      refine Ru_iload (pc := 33) dX6_serve_33 rfl ?_
      refine Ru_iald (pc := 35) dX6_serve_35 (shTown_14 ht) (by omega) ?_
      refine Ru_top (hx.2.2.2.2.1 w (by omega)).1 ?_
      refine Ru_ishl1N (pc := 36) dX6_serve_36 (by omega) ?_
      refine Ru_istore (pc := 37) dX6_serve_37 rfl (by decide) ?_
      refine Ru_aload_n (pc := 39) dX6_serve_39 rfl rfl ?_
      refine Ru_getI (pc := 40) dX6_serve_40 fl_X6_7 rfl rfl ?_
      refine Ru_top h0 ?_
      refine Ru_iload (pc := 43) dX6_serve_43 rfl ?_
      refine Ru_iandN (pc := 45) dX6_serve_45 ?_
      refine Ru_if_eqN (pc := 46) 100 dX6_serve_46 (by decide) (Nat.lt_of_le_of_lt Nat.and_le_right (Nat.lt_of_le_of_lt (Nat.pow_le_pow_right (n := 2) (by decide) (show d (107 + w) ≤ 8 by omega)) (by decide))) (fun h2 => ?_) (fun h2 => ?_)
      · have hin : p.1.testBit (d (107 + w)) = false := by
          rw [and_p2] at h2
          cases hq : p.1.testBit (d (107 + w))
          · rfl
          · rw [hq, if_pos rfl] at h2
            have := Nat.two_pow_pos (d (107 + w))
            omega
        refine Ru_iincN (pc := 100) 1 dX6_serve_100 rfl rfl rfl (by decide) ?_
        refine Ru_goto (pc := 103) 8 dX6_serve_103 (by decide) ?_
        have e : wSat d p w = p := by
          unfold wSat
          rw [if_neg (by simp_all)]
        have hlen : (List.length l') < (w :: l').length := by simp
        exact Ru_weak (ih l'.length hlen l' (i + 1) (wSat d p w) _ rfl (fun j hj => by have := hg (j + 1) (by simp; omega); rw [show i + 1 + j = i + (j + 1) by omega]; simpa using this) (fun z hz => hl z (List.mem_cons_of_mem _ hz)) (by omega) (by rw [← hp]; rfl) (by rw [e]; exact h0) (by rw [e]; exact hw1) (by rw [e]; exact hh2) fx) rfl
      · have hin : p.1.testBit (d (107 + w)) = true := by
          rw [and_p2] at h2
          cases hq : p.1.testBit (d (107 + w))
          · rw [hq, if_neg (by decide)] at h2
            exact absurd rfl h2
          · rfl
        refine Ru_aload_n (pc := 49) dX6_serve_49 rfl rfl ?_
        refine Ru_dup (pc := 50) dX6_serve_50 rfl ?_
        refine Ru_getI (pc := 51) dX6_serve_51 fl_X6_13 rfl rfl ?_
        refine Ru_top hw1 ?_
        refine Ru_aload_n (pc := 54) dX6_serve_54 rfl rfl ?_
        refine Ru_getR (pc := 55) (t + 16) dX6_serve_55 fl_X6_31 (shTown_0 ht) rfl (rfX_of (o := t) (j := 16) (shTown_0 ht) rfl) ?_
        refine Ru_iload (pc := 58) dX6_serve_58 rfl ?_
        refine Ru_iald (pc := 60) dX6_serve_60 (shTown_16 ht) (by omega) ?_
        refine Ru_top (hx.2.2.2.2.1 w (by omega)).2.2 ?_
        refine Ru_iaddN (pc := 61) dX6_serve_61 ?_
        refine Ru_putI (pc := 62) rfl dX6_serve_62 fl_X6_13 rfl ?_
        refine Ru_aload_n (pc := 65) dX6_serve_65 rfl rfl ?_
        refine Ru_dup (pc := 66) dX6_serve_66 rfl ?_
        refine Ru_getI (pc := 67) dX6_serve_67 fl_X6_16 rfl rfl ?_
        refine Ru_top ((r_sI_n (by decide)).trans hh2) ?_
        refine Ru_iconst (pc := 70) (nI 1) dX6_serve_70 rfl ?_
        refine Ru_iaddN (pc := 71) dX6_serve_71 ?_
        refine Ru_putI (pc := 72) rfl dX6_serve_72 fl_X6_16 rfl ?_
        refine Ru_aload_n (pc := 75) dX6_serve_75 rfl rfl ?_
        refine Ru_getI (pc := 76) dX6_serve_76 fl_X6_34 (shTown_0 ht) rfl ?_
        refine Ru_top ((r_sI_n (by omega)).trans ((r_sI_n (by omega)).trans hx.2.1.2.2)) ?_
        refine Ru_iload (pc := 79) dX6_serve_79 rfl ?_
        refine Ru_ishrN (pc := 81) dX6_serve_81 ⟨Nat.lt_of_lt_of_le (bt_lt (n := 8) heL) (by decide), by omega⟩ ?_
        refine Ru_iconst (pc := 82) (nI 1) dX6_serve_82 rfl ?_
        refine Ru_iandN (pc := 83) dX6_serve_83 ?_
        refine Ru_if_eqN (pc := 84) 100 dX6_serve_84 (by decide) (Nat.lt_of_le_of_lt Nat.and_le_right (by decide)) (fun h3 => ?_) (fun h3 => ?_)
        · have h3b := r_b1_f h3
          have heat : ¬ d (131 + w) = 1 := fun z => by
            rw [hbit] at h3b
            exact of_decide_eq_false h3b z
          refine Ru_iincN (pc := 100) 1 dX6_serve_100 rfl rfl rfl (by decide) ?_
          refine Ru_goto (pc := 103) 8 dX6_serve_103 (by decide) ?_
          have e : wSat d p w = (p.1, p.2.1 + d (123 + w), p.2.2 + 1) := by
            unfold wSat
            rw [if_pos (by assumption), if_neg (by assumption)]
          have hlen : (List.length l') < (w :: l').length := by simp
          exact Ru_weak (ih l'.length hlen l' (i + 1) (wSat d p w) _ rfl (fun j hj => by have := hg (j + 1) (by simp; omega); rw [show i + 1 + j = i + (j + 1) by omega]; simpa using this) (fun z hz => hl z (List.mem_cons_of_mem _ hz)) (by omega) (by rw [← hp]; rfl) (by rw [e]; simp [r_sI_g]; exact h0) (by rw [e]; simp [r_sI_g]) (by rw [e]; simp [r_sI_g]) (r_fx.sI rfl (r_fx.sI rfl fx))) rfl
        · have h3b := r_b1_t h3
          have heat : d (131 + w) = 1 := by
            rw [hbit] at h3b
            exact of_decide_eq_true h3b
          refine Ru_aload_n (pc := 87) dX6_serve_87 rfl rfl ?_
          refine Ru_dup (pc := 88) dX6_serve_88 rfl ?_
          refine Ru_getI (pc := 89) dX6_serve_89 fl_X6_7 rfl rfl ?_
          refine Ru_top ((r_sI_n (by decide)).trans ((r_sI_n (by decide)).trans h0)) ?_
          refine Ru_iload (pc := 92) dX6_serve_92 rfl ?_
          refine Ru_iconst (pc := 94) (-1) dX6_serve_94 rfl ?_
          refine Ru_ixor (pc := 95) dX6_serve_95 ?_
          refine Ru_idifN (pc := 96) dX6_serve_96 ?_
          refine Ru_putI (pc := 97) rfl dX6_serve_97 fl_X6_7 rfl ?_
          refine Ru_iincN (pc := 100) 1 dX6_serve_100 rfl rfl rfl (by decide) ?_
          refine Ru_goto (pc := 103) 8 dX6_serve_103 (by decide) ?_
          have e : wSat d p w = (r_dif p.1 (2 ^ d (107 + w)), p.2.1 + d (123 + w), p.2.2 + 1) := by
            unfold wSat
            rw [if_pos (by assumption), if_pos (by assumption)]
          have hlen : (List.length l') < (w :: l').length := by simp
          exact Ru_weak (ih l'.length hlen l' (i + 1) (wSat d p w) _ rfl (fun j hj => by have := hg (j + 1) (by simp; omega); rw [show i + 1 + j = i + (j + 1) by omega]; simpa using this) (fun z hz => hl z (List.mem_cons_of_mem _ hz)) (by omega) (by rw [← hp]; rfl) (by rw [e]; simp [r_sI_g]) (by rw [e]; simp [r_sI_g]) (by rw [e]; simp [r_sI_g]) (r_fx.sI rfl (r_fx.sI rfl (r_fx.sI rfl fx)))) rfl

theorem c_X6_serve_70 {Q : Rq} {M : Mem} {t f n : Nat} {d : Td} (p : Sh) (ht : isTown t) (hx0 : X_tm t d M) (wf : Wf d) (hf : f + n ≤ 25) (h0 : M.1 70 0 = nI p.1) (h1 : M.1 70 1 = nI p.2.1) (h2 : M.1 70 2 = nI p.2.2) (k : ∀ M', r_fx [(70, 0), (70, 1), (70, 2)] [] M M' → M'.1 70 0 = nI (wR d p f n).1 → M'.1 70 1 = nI (wR d p f n).2.1 → M'.1 70 2 = nI (wR d p f n).2.2 → Q none GX M') : Ca 0 mt_X6_serve 0 0 [.ref 70, .ref t, .int (nI f), .int (nI (f + n))] GX M Q := by
  refine Ca_of rfl (Nat.le_of_ble_eq_true rfl) ?_
  refine Ru_aload_n (pc := 0) dX6_serve_0 rfl rfl ?_
  refine Ru_getR (pc := 1) (t + 18) dX6_serve_1 fl_X6_19 (shTown_0 ht) rfl (rfX_of (o := t) (j := 18) (shTown_0 ht) rfl) ?_
  refine Ru_iload_n (pc := 4) dX6_serve_4 rfl rfl ?_
  refine Ru_iald (pc := 5) dX6_serve_5 (shTown_18 ht) (by omega) ?_
  refine Ru_top (hx0.2.2.2.2.2.2 f (by omega)) ?_
  refine Ru_istore (pc := 6) dX6_serve_6 rfl (by decide) ?_
  exact Ru_weak (l_X6_serve_70 (M0 := M) (f := f) (t2 := f + n) ht hx0 wf (by omega) (wR d p f n) k _ (oSeg d f n) _ p M rfl (fun j hj => oSeg_get hf hj) (fun w hw => oSeg_lt hw) (ordH_mono d f n) (wR_seg d p f n).symm h0 h1 h2 r_fx.rf) rfl

theorem c_X9_isAsked {Q : Rq} {M : Mem} {t f g : Nat} {d : Td} (ht : isTown t) (hx : X_tm t d M) (wf : Wf d) (hg : f < 26 ∧ g < 26) (k : Q (some (.int (r_b (decide ((ordH d f).length < (ordH d g).length))))) GX M) : Ca 0 mt_X9_isAsked 0 0 [.ref t, .int (nI f), .int (nI g)] GX M Q := by
  refine Ca_of rfl (Nat.le_of_ble_eq_true rfl) ?_
  have hb := wf.1
  have l1 := ordH_le d f
  have l2 := ordH_le d g
  refine Ru_aload_n (pc := 0) dX9_isAsked_0 rfl rfl ?_
  refine Ru_getR (pc := 1) (t + 18) dX9_isAsked_1 fl_X9_60 (shTown_0 ht) rfl (rfX_of (o := t) (j := 18) (shTown_0 ht) rfl) ?_
  refine Ru_iload_n (pc := 4) dX9_isAsked_4 rfl rfl ?_
  refine Ru_iald (pc := 5) dX9_isAsked_5 (shTown_18 ht) (by omega) ?_
  refine Ru_top (hx.2.2.2.2.2.2 g (by omega)) ?_
  refine Ru_aload_n (pc := 6) dX9_isAsked_6 rfl rfl ?_
  refine Ru_getR (pc := 7) (t + 18) dX9_isAsked_7 fl_X9_60 (shTown_0 ht) rfl (rfX_of (o := t) (j := 18) (shTown_0 ht) rfl) ?_
  refine Ru_iload_n (pc := 10) dX9_isAsked_10 rfl rfl ?_
  refine Ru_iald (pc := 11) dX9_isAsked_11 (shTown_18 ht) (by omega) ?_
  refine Ru_top (hx.2.2.2.2.2.2 f (by omega)) ?_
  refine Ru_icmp_leN (pc := 12) 19 dX9_isAsked_12 (by decide) (by omega) (fun h1 => ?_) (fun h1 => ?_)
  · refine Ru_iconst (pc := 19) (nI 0) dX9_isAsked_19 rfl ?_
    refine Ru_zret (pc := 20) dX9_isAsked_20 rfl ⟨Nat.le_refl _, Nat.le_refl _⟩ (Or.inl rfl) ?_
    refine r_qe (r_b_f ?_) k
    exact decide_eq_false (by omega)
  · refine Ru_iconst (pc := 15) (nI 1) dX9_isAsked_15 rfl ?_
    refine Ru_goto (pc := 16) 20 dX9_isAsked_16 (by decide) ?_
    refine Ru_zret (pc := 20) dX9_isAsked_20 rfl ⟨Nat.le_refl _, Nat.le_refl _⟩ (Or.inr rfl) ?_
    refine r_qe (r_b_t ?_) k
    exact decide_eq_true (by omega)
