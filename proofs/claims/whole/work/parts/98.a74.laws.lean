-- READING: THE LAW AS A WHOLE
theorem laH_ok {T : Tx} {x : St9} {y : Lq} {s : Ps} (h : (laH T x y s).2 = 0) : laH T x y s = (s.1 + 2, 0) ∧ s.2 = 0 ∧ tK T s.1 = 3 ∧ ¬ fN x.2 (tL T s.1) 0 (x.1 0) = 0 ∧ ¬ y.2.2 (21 + laK T x s) = 1 ∧ tK T (s.1 + 1) = 145 ∧ sOld T x.2 0 (x.1 0) s = s := by
  have o1 := sMust_ok h
  have o2 := sNext_0 o1.1
  by_cases e : (sOld T x.2 0 (x.1 0) s).2 = 0 ∧ y.2.2 (21 + laK T x s) = 1
  · rw [if_pos e] at o2
    exact absurd o2 (sFail_n (by decide) e.1)
  · rw [if_neg e] at o2
    have o3 := sOld_ok o2
    have e2 : sNext (sOld T x.2 0 (x.1 0) s) = (s.1 + 1, 0) := by
      rw [o3.1]
      exact if_pos o3.2.1
    have o4 := o1.2.1
    have o5 := o1.2.2
    rw [if_neg e, e2] at o4 o5
    refine ⟨?_, o3.2.1, o3.2.2.1, o3.2.2.2, fun z => e ⟨o2, z⟩, of_decide_eq_true o4, o3.1⟩
    unfold laH
    rw [if_neg e, e2, show decide (tK T (s.1 + 1, 0).1 = 145) = true from o4]
    rfl
theorem laH_f {T : Tx} {x : St9} {y : Lq} {s : Ps} (h : ¬ s.2 = 0) : laH T x y s = s := by
  unfold laH
  rw [sOld_f h, if_neg (fun z => h z.1), sNext_f h, sMust_f h]
theorem laK_lt {T : Tx} {x : St9} {s : Ps} (h : ¬ fN x.2 (tL T s.1) 0 (x.1 0) = 0) : laK T x s < x.1 0 := by
  have := fN_le x.2 (tL T s.1) 0 (x.1 0)
  unfold laK
  omega
/-- the rows that stand so far -/
def laV (x : St9) (y : Lq) : Prop := y.2.1 ≤ 20 ∧ (∀ k, k < 8 → y.2.2 (21 + k) ≤ 1 ∧ (x.1 0 ≤ k → y.2.2 (21 + k) = 0)) ∧ ∀ k, k < 8 → y.2.2 (21 + k) = 1 → nOk y.2.2 k ∧ y.2.2 (147 + k) ≤ y.1
theorem nOk_cg {e e' : Td} {k : Nat} (h1 : e' (139 + k) = e (139 + k)) (h2 : e' (147 + k) = e (147 + k)) (h : ∀ j, 155 ≤ j → j < 155 + 2 * e (147 + k) → e' j = e j) (p : nOk e k) : nOk e' k := by
  unfold nOk
  rw [h1, h2]
  refine ⟨p.1, p.2.1, fun n hn => ?_⟩
  exact lok_cg (e := e) (i0 := e (139 + k)) (fun j j1 j2 => h j (by omega) (by omega)) (p.2.2 n hn)
theorem lEi_6 {T : Tx} {x : St9} (tw : Tw T) (hx : x.1 0 ≤ 8) {i0 : Nat} : lGd T i0 0 (lEi T (lOn T x 6)) := lEi_w tw (lOn_w tw hx 6 (by decide) 0 (by decide)) (lOn_w tw hx 6 (by decide) 1 (by decide)) (lOn_w tw hx 6 (by decide) 2 (by decide))
theorem laR1_w {T : Tx} {x : St9} {y : Lq} {s : Ps} (tw : Tw T) (hx : x.1 0 ≤ 8) (hc : y.2.1 ≤ 20) (h0 : (laH T x y s).2 = 0) (hr : (laR1 T x y s).2.2 = 0) : lF T y.1 1 0 1 (laB (laK T x s) y) (laH T x y s) (laR1 T x y s) := (lEi_6 tw hx).2 (laB (laK T x s) y) (laH T x y s) h0 (Nat.le_refl _) hc hr
theorem laV_s {T : Tx} {x : St9} {y : Lq} {s : Ps} (tw : Tw T) (h3 : T.2 ≤ 300) (hx : x.1 0 ≤ 8) (hB : 2 * y.1 ≤ tp T s.1) (h0 : (laH T x y s).2 = 0) (hr : (laS T x y s).2 = 0) (p : laV x y) : laV x (laE (laK T x s) (laR1 T x y s).1) ∧ 2 * (laR1 T x y s).1.1 ≤ tp T (laS T x y s).1 ∧ s.1 + 2 ≤ (laS T x y s).1 := by
  have o1 := sMust_ok (show (sMust T (decide (tK T (laR1 T x y s).2.1 = 59)) (laR1 T x y s).2).2 = 0 from hr)
  have w := laR1_w tw hx p.1 h0 o1.1
  have oh := laH_ok h0
  have hk := laK_lt oh.2.2.2.1
  have eS : laS T x y s = ((laR1 T x y s).2.1 + 1, 0) := o1.2.2
  rw [eS]
  obtain ⟨w1, w2, w3, w4, w5, w6⟩ := w
  have hl : (laB (laK T x s) y).1 = y.1 := rfl
  have hcl : (laB (laK T x s) y).2.1 = y.2.1 := rfl
  rw [hl] at w1 w2 w5 w6
  have ec : ∀ j, (laB (laK T x s) y).2.2 j = if j = 21 + laK T x s then 1 else if j = 139 + laK T x s then y.1 else y.2.2 j := fun _ => rfl
  have w7 := w6 (fun n hn => absurd hn (by omega)) (by rw [Nat.sub_self]; rfl)
  rw [oh.1] at w2 w3
  dsimp only at w2 w3
  generalize hK : laK T x s = kk at *
  generalize hR : laR1 T x y s = r at *
  have t1 := tpq1 tw (i := s.1)
  have t2 := tpq1 tw (i := s.1 + 1)
  have t3 := tpq1 tw (i := r.2.1)
  have t4 := tp_le tw (r.2.1 + 1)
  have e5 : tp T (s.1 + 2) = tp T (s.1 + 1 + 1) := rfl
  have ee : ∀ j, (laE kk r.1).2.2 j = if j = 147 + kk then r.1.1 else r.1.2.2 j := fun _ => rfl
  have el : ∀ j, j < 155 → r.1.2.2 j = if j = 21 + kk then 1 else if j = 139 + kk then y.1 else y.2.2 j := fun j hj => (w5 j (by omega)).trans (ec j)
  refine ⟨⟨w4 p.1, fun k hk8 => ?_, fun k hk8 => ?_⟩, by dsimp only; omega, by dsimp only; omega⟩
  · rw [ee, if_neg (by omega), el _ (by omega)]
    by_cases e : k = kk
    · subst e
      rw [if_pos rfl]
      exact ⟨Nat.le_refl _, fun z => by omega⟩
    · rw [if_neg (by omega), if_neg (by omega)]
      exact p.2.1 k hk8
  · intro hf
    by_cases e : k = kk
    · subst e
      have a1 : (laE k r.1).2.2 (139 + k) = y.1 := by
        rw [ee, if_neg (by omega), el _ (by omega), if_neg (by omega), if_pos rfl]
      have a2 : (laE k r.1).2.2 (147 + k) = r.1.1 := by
        rw [ee, if_pos rfl]
      refine ⟨?_, by rw [a2]; exact Nat.le_refl _⟩
      unfold nOk
      rw [a1, a2]
      refine ⟨by omega, by omega, fun n hn => ?_⟩
      exact lok_cg (e := r.1.2.2) (i0 := y.1) (fun j j1 j2 => by rw [ee, if_neg (by omega)]) (w7.1 n hn)
    · have f1 : (laE kk r.1).2.2 (21 + k) = y.2.2 (21 + k) := by
        rw [ee, if_neg (by omega), el _ (by omega), if_neg (by omega), if_neg (by omega)]
      rw [f1] at hf
      have q := p.2.2 k hk8 hf
      have f3 : (laE kk r.1).2.2 (139 + k) = y.2.2 (139 + k) := by
        rw [ee, if_neg (by omega), el _ (by omega), if_neg (by omega), if_neg (by omega)]
      have f2 : (laE kk r.1).2.2 (147 + k) = y.2.2 (147 + k) := by
        rw [ee, if_neg (by omega), el _ (by omega), if_neg (by omega), if_neg (by omega)]
      refine ⟨nOk_cg f3 f2 (fun j j1 j2 => ?_) q.1, ?_⟩
      · rw [ee, if_neg (by omega), w5 j (by omega), ec, if_neg (by omega), if_neg (by omega)]
      · rw [f2]
        have : (laE kk r.1).1 = r.1.1 := rfl
        omega
/-- how many have a law -/
def cn9 (f : Nat → Nat) : Nat → Nat
  | 0 => 0
  | n + 1 => cn9 f n + f n
theorem cn9_up {f g : Nat → Nat} {k : Nat} (hz : f k = 0) (hg : ∀ i, g i = if i = k then 1 else f i) : ∀ n, cn9 g n = cn9 f n + if k < n then 1 else 0
  | 0 => by
    rw [if_neg (Nat.not_lt_zero _)]
    rfl
  | n + 1 => by
    rw [cn9, cn9, cn9_up hz hg n, hg n]
    by_cases e : n = k
    · subst e
      rw [if_pos rfl, if_neg (Nat.lt_irrefl _), if_pos (Nat.lt_succ_self _), hz]
    · rw [if_neg e]
      by_cases e2 : k < n
      · rw [if_pos e2, if_pos (by omega)]
        omega
      · rw [if_neg e2, if_neg (by omega)]
        omega
theorem pop8_bt {f : Nat → Nat} (h : ∀ i, i < 8 → f i ≤ 1) : pop8 (bt f 8) = cn9 f 8 := by
  have b := fun t (ht : t < 8) => bt_bit (n := 8) (t := t) h ht
  unfold pop8
  have b0 := b 0 (by decide)
  rw [Nat.shiftRight_zero] at b0
  rw [b0, b 1 (by decide), b 2 (by decide), b 3 (by decide), b 4 (by decide), b 5 (by decide), b 6 (by decide), b 7 (by decide)]
  simp only [cn9]
  omega
theorem laP_end {T : Tx} {x : St9} {c : Nat} {y : Lq} {s : Ps} (h : tK T s.1 = 0) : ∀ f, laP T x f c y s = (c, y, s)
  | 0 => rfl
  | f + 1 => by rw [laP, if_pos h]
theorem laP_w {T : Tx} {x : St9} (tw : Tw T) (h3 : T.2 ≤ 300) (hx : x.1 0 ≤ 8) : ∀ f c y s, s.2 = 0 → 2 * y.1 ≤ tp T s.1 → laV x y → c = cn9 (fun k => y.2.2 (21 + k)) 8 → (laP T x f c y s).2.2.2 = 0 → laV x (laP T x f c y s).2.1 ∧ (laP T x f c y s).1 = cn9 (fun k => (laP T x f c y s).2.1.2.2 (21 + k)) 8 ∧ (laP T x f c y s).2.1.1 ≤ 150
  | 0, c, y, s, h0, hB, p, ec, hr => ⟨p, ec, by
    have := tp_le tw s.1
    show y.1 ≤ 150
    omega⟩
  | f + 1, c, y, s, h0, hB, p, ec, hr => by
    rw [laP] at hr ⊢
    by_cases e1 : tK T s.1 = 0
    · rw [if_pos e1]
      exact ⟨p, ec, by
        have := tp_le tw s.1
        show y.1 ≤ 150
        omega⟩
    · rw [if_neg e1] at hr ⊢
      by_cases e2 : (laH T x y s).2 = 0
      · rw [if_neg (fun z => z e2)] at hr ⊢
        by_cases e3 : (laS T x y s).2 = 0
        · rw [if_neg (fun z => z e3)] at hr ⊢
          have w := laV_s tw h3 hx hB e2 e3 p
          refine laP_w tw h3 hx f (c + 1) _ _ e3 w.2.1 w.1 ?_ hr
          have oh := laH_ok e2
          have hk := laK_lt oh.2.2.2.1
          have o1 := sMust_ok (show (sMust T (decide (tK T (laR1 T x y s).2.1 = 59)) (laR1 T x y s).2).2 = 0 from e3)
          have w5 := (laR1_w tw hx p.1 e2 o1.1).2.2.2.2.1
          have hz : y.2.2 (21 + laK T x s) = 0 := by
            have := (p.2.1 (laK T x s) (by omega)).1
            have := oh.2.2.2.2.1
            omega
          have up : ∀ n, n ≤ 8 → cn9 (fun k => (laE (laK T x s) (laR1 T x y s).1).2.2 (21 + k)) n = cn9 (fun k => if k = laK T x s then 1 else y.2.2 (21 + k)) n := by
            intro n hn
            induction n with
            | zero => rfl
            | succ n ih =>
              rw [cn9, cn9, ih (by omega)]
              refine congrArg _ ?_
              show (if 21 + n = 147 + laK T x s then (laR1 T x y s).1.1 else (laR1 T x y s).1.2.2 (21 + n)) = if n = laK T x s then 1 else y.2.2 (21 + n)
              rw [if_neg (by omega), w5 (21 + n) (by omega)]
              show (if 21 + n = 21 + laK T x s then 1 else if 21 + n = 139 + laK T x s then y.1 else y.2.2 (21 + n)) = _
              by_cases e : n = laK T x s
              · rw [if_pos (by omega), if_pos e]
              · rw [if_neg (by omega), if_neg (by omega), if_neg e]
          rw [up 8 (Nat.le_refl _), cn9_up (f := fun k => y.2.2 (21 + k)) hz (fun i => rfl) 8, if_pos (by omega), ec]
        · rw [if_pos e3] at hr
          exact absurd hr e3
      · rw [if_pos e2] at hr
        exact absurd hr e2
theorem laV_0 (x : St9) (g : Td) : laV x (0, 0, (fun j => if 21 ≤ j ∧ j < 29 then 0 else g j)) := by
  have z : ∀ k, k < 8 → ((fun j => if 21 ≤ j ∧ j < 29 then 0 else g j) : Td) (21 + k) = 0 := fun k hk => if_pos ⟨by omega, by omega⟩
  refine ⟨Nat.zero_le _, fun k hk => ⟨Nat.le_trans (Nat.le_of_eq (z k hk)) (Nat.zero_le _), fun _ => z k hk⟩, fun k hk h1 => ?_⟩
  exact absurd ((z k hk).symm.trans h1) (by decide)
theorem laR_w {T : Tx} {x : St9} (tw : Tw T) (h3 : T.2 ≤ 300) (hx : x.1 0 ≤ 8) (g : Td) (hr : (laR T x g).2.2.2 = 0) : laV x (laR T x g).2.1 ∧ (laR T x g).1 = cn9 (fun k => (laR T x g).2.1.2.2 (21 + k)) 8 ∧ (laR T x g).2.1.1 ≤ 150 :=
  laP_w tw h3 hx 801 0 _ _ rfl (Nat.zero_le _) (laV_0 x g) rfl hr
/-- a town with a law -/
def lwD (d : Td) (y : Lq) : Td := fun j => if (21 ≤ j ∧ j < 29) ∨ (139 ≤ j ∧ j < 155 + 2 * y.1) then y.2.2 j else d j
theorem lwD_y {d : Td} {y : Lq} {j : Nat} (h : (21 ≤ j ∧ j < 29) ∨ (139 ≤ j ∧ j < 155 + 2 * y.1)) : lwD d y j = y.2.2 j := if_pos h
theorem lwD_n {d : Td} {y : Lq} {j : Nat} (h : ¬ ((21 ≤ j ∧ j < 29) ∨ (139 ≤ j ∧ j < 155 + 2 * y.1))) : lwD d y j = d j := if_neg h
theorem lwD_wl {x : St9} {d : Td} {y : Lq} (p : laV x y) : Wl (lwD d y) := fun k hk h1 => by
  rw [lwD_y (by omega)] at h1
  have q := p.2.2 k hk h1
  exact nOk_cg (lwD_y (by omega)) (lwD_y (by omega)) (fun j j1 j2 => lwD_y (by omega)) q.1
theorem lwD_wf {x : St9} {d : Td} {y : Lq} (hd : d 0 = x.1 0) (p : laV x y) (wf : Wf d) : Wf (lwD d y) := by
  have hb := wf.1
  have e : ∀ j, (j < 21 ∨ (29 ≤ j ∧ j < 139)) → lwD d y j = d j := fun j h => lwD_n (by omega)
  have e0 := e 0 (by decide)
  have e1 := e 1 (by decide)
  have e2 := e 2 (by decide)
  have e3 := e 3 (by decide)
  refine ⟨by rw [e0, e1, e2, e3, e 4 (by decide)]; omega, fun i hi => ?_, fun i h1 h2 => ?_, fun i h1 h2 => ?_, fun m hm => ?_, fun q hq => ?_, fun w hw => ?_⟩
  · rw [e (5 + i) (by omega), e (13 + i) (by omega), lwD_y (j := 21 + i) (by omega), e (131 + i) (by omega)]
    have := wf.2.1 i hi
    exact ⟨this.1, this.2.1, (p.2.1 i hi).1, this.2.2.2⟩
  · rw [e0] at h1
    rw [e (5 + i) (by omega), e (13 + i) (by omega), lwD_y (j := 21 + i) (by omega)]
    have := wf.2.2.1 i h1 h2
    exact ⟨this.1, this.2.1, (p.2.1 i h2).2 (by omega)⟩
  · rw [e3] at h1
    rw [e (131 + i) (by omega)]
    exact wf.2.2.2.1 i h1 h2
  · rw [e1] at hm
    rw [e0, e (29 + m) (by omega), e (41 + m) (by omega), e (53 + m) (by omega), e (65 + m) (by omega), e (77 + m) (by omega)]
    exact wf.2.2.2.2.1 m hm
  · rw [e2] at hq
    rw [e (89 + q) (by omega), e (95 + q) (by omega), e (101 + q) (by omega)]
    exact wf.2.2.2.2.2.1 q hq
  · rw [e3] at hw
    rw [e0, e (107 + w) (by omega), e (115 + w) (by omega), e (123 + w) (by omega)]
    exact wf.2.2.2.2.2.2 w hw
theorem lwD_tm {t : Nat} {d : Td} {y : Lq} {M : Mem} (wf : Wf d) (hp : X_tm t d M) : X_tm t (lwD d y) M := by
  have hb := wf.1
  have he : ∀ j, (j < 21 ∨ (29 ≤ j ∧ j < 139)) → lwD d y j = d j := fun j h => lwD_n (by omega)
  have e0 := he 0 (by decide)
  have e1 := he 1 (by decide)
  have e2 := he 2 (by decide)
  have e3 := he 3 (by decide)
  have eo : ∀ n, ordH (lwD d y) n = ordH d n := ordH_cg9 e3 (fun w hw => he (115 + w) (by omega))
  obtain ⟨⟨a1, a2, a3, a4⟩, ⟨b1, b2, b3⟩, c1, c2, c3, c4, c5⟩ := hp
  refine ⟨⟨a1.trans (congrArg nI e0.symm), a2.trans (congrArg nI e1.symm), a3.trans (congrArg nI e2.symm), a4.trans (congrArg nI e3.symm)⟩, ⟨b1.trans (congrArg nI ?_), b2.trans (congrArg nI ?_), b3.trans (congrArg nI ?_)⟩, fun m hm => ?_, fun q hq => ?_, fun w hw => ?_, fun w hw => ?_, fun k hk => ?_⟩
  · exact bt_cg9 8 (fun i hi => (he (5 + i) (by omega)).symm)
  · exact bt_cg9 8 (fun i hi => (he (13 + i) (by omega)).symm)
  · exact bt_cg9 8 (fun i hi => (he (131 + i) (by omega)).symm)
  · rw [e1] at hm
    rw [he (29 + m) (by omega), he (41 + m) (by omega), he (53 + m) (by omega), he (65 + m) (by omega), he (77 + m) (by omega)]
    exact c1 m hm
  · rw [e2] at hq
    rw [he (89 + q) (by omega), he (95 + q) (by omega), he (101 + q) (by omega)]
    exact c2 q hq
  · rw [e3] at hw
    rw [he (107 + w) (by omega), he (115 + w) (by omega), he (123 + w) (by omega)]
    exact c3 w hw
  · rw [e3] at hw
    rw [eo]
    exact c4 w hw
  · rw [eo]
    exact c5 k hk
/-- the rows of the developers' law: steps with one set of a byte each -/
def X_lq (lw : Nat) (y : Lq) (M : Mem) : Prop := ∀ i, i < y.1 → M.1 (lw + 3) i = nI (nCd (y.2.2 (155 + 2 * i)) (y.2.2 (155 + 2 * i + 1)))
theorem lwD_lw {x : St9} {lw : Nat} {d : Td} {y : Lq} {M : Mem} (p : laV x y) (hf : ∀ k, k < 8 → y.2.2 (21 + k) = 1 → M.1 (lw + 1) k = nI (y.2.2 (139 + k)) ∧ M.1 (lw + 2) k = nI (y.2.2 (147 + k))) (hq : X_lq lw y M) : X_lw lw (lwD d y) M := fun k hk h1 => by
  rw [lwD_y (by omega)] at h1
  have q := p.2.2 k hk h1
  rw [lwD_y (j := 139 + k) (by omega), lwD_y (j := 147 + k) (by omega)]
  refine ⟨(hf k hk h1).1, (hf k hk h1).2, fun i i1 i2 => ?_⟩
  rw [lwD_y (j := 155 + 2 * i) (by omega), lwD_y (j := 155 + 2 * i + 1) (by omega)]
  exact hq i (by omega)
theorem lwD_bt (d : Td) (y : Lq) : bt (fun i => lwD d y (21 + i)) 8 = bt (fun i => y.2.2 (21 + i)) 8 := bt_cg9 8 (fun i hi => lwD_y (by omega))
