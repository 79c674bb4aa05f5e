-- LABOUR: the reference
def lS (d : Td) (z P0 s m : Nat) (c : Bool) (L : Nat → Nat) : Prop := lReal d z L ∧ L z = 1 ∧ lB L ∧ lPhi L ≤ P0 ∧ (c = true → lPhi L < P0) ∧ (c = false → (∀ s', s' < s → ∀ m', m' < d 1 → lCl d L s' m') ∧ ∀ m', m' < m → lCl d L s m')
theorem lS_same {d : Td} {z P0 s m : Nat} {c : Bool} {L : Nat → Nat} (h : lS d z P0 s m c L) (hc : lCl d L s m) : lS d z P0 s (m + 1) c L := by
  obtain ⟨h1, h2, h3, h4, h5, h6⟩ := h
  refine ⟨h1, h2, h3, h4, h5, fun e => ⟨(h6 e).1, fun m' hm' => ?_⟩⟩
  by_cases em : m' = m
  · subst em
    exact hc
  · exact (h6 e).2 m' (by omega)
theorem lS_row {d : Td} {z P0 s m : Nat} {c : Bool} {L : Nat → Nat} (h : lS d z P0 s m c L) (hm : d 1 ≤ m ∨ L s = 0) : lS d z P0 (s + 1) 0 c L := by
  obtain ⟨h1, h2, h3, h4, h5, h6⟩ := h
  refine ⟨h1, h2, h3, h4, h5, fun e => ⟨fun s' hs' m' hm' => ?_, fun m' hm' => by omega⟩⟩
  by_cases es : s' = s
  · subst es
    rcases hm with hm | hm
    · exact (h6 e).2 m' (by omega)
    · intro c1 q
      omega
  · exact (h6 e).1 s' (by omega) m' hm'
theorem lS_new {d : Td} (wf : Wf d) {z P0 s m c1 : Nat} {c : Bool} {L L' : Nat → Nat} (hss : s < 2 ^ d 0) (hm : m < d 1) (h : lS d z P0 s m c L) (hs : L s = c1 + 1) (hcan : lCan d m s = true) (hl : L (lMade d m s) = 0 ∨ c1 + d (41 + m) + 1 < L (lMade d m s)) (e : ∀ k, L' k = if k = lMade d m s then c1 + d (41 + m) + 1 else L k) : lS d z P0 s (m + 1) true L' := by
  obtain ⟨h1, h2, h3, h4, h5, h6⟩ := h
  have hw := wf.2.2.2.2.1 m hm
  have hp := pw_le wf.1.1
  have hml := lMade_lt wf hm hss
  have e2 : ∀ k, L' k = if k = lMade d m s then L s + d (41 + m) else L k := fun k => by
    rw [e, hs]
    split <;> omega
  have hph := lPhi_up (L := L) (L' := L') (s := s) (t := lMade d m s) (h := d (41 + m)) h3 (by omega) (by omega) (by omega) (by omega) (by omega) e2
  refine ⟨lReal_up wf h1 hs hm hcan (fun k => ?_), ?_, lB_up (s := s) (t := lMade d m s) (h := d (41 + m)) h3 (by omega) (by omega) (by omega) (by omega) (by omega) e2, by omega, fun _ => by omega, fun z => by cases z⟩
  · rw [e]
    split
    · exact Or.inr ⟨by assumption, rfl⟩
    · exact Or.inl rfl
  · rw [e]
    split
    · rename_i q
      rw [← q] at hl
      omega
    · exact h2

theorem c_X12_canMake {Q : Rq} {M : Mem} {d : Td} {m s : Nat} (hc : ∀ k, k < 521 → M.1 5 k = nI (d k)) (wf : Wf d) (hm : m < d 1) (k : Q (some (.int (r_b (lCan d m s)))) GY M) : Ca 1 mt_X12_canMake 0 0 [.ref 0, .int (nI m), .int (nI s)] GY M Q := by
  refine Ca_of rfl (Nat.le_of_ble_eq_true rfl) ?_
  have hb := wf.1
  have hm5 := wf.2.2.2.2.1 m hm
  have hp := pw_le hb.1
  have hnd : sNd d m < 2 ^ d 0 := r_or_lt hm5.2.2.2.1 hm5.2.2.2.2.1
  refine Ru_aload_n (pc := 0) dX12_canMake_0 rfl rfl ?_
  refine Ru_getR (pc := 1) 5 dX12_canMake_1 fl_X12_35 rfl rfl rfl ?_
  refine Ru_bipush (pc := 4) (nI 53) dX12_canMake_4 rfl ?_
  refine Ru_iload_n (pc := 6) dX12_canMake_6 rfl rfl ?_
  refine Ru_iaddN (pc := 7) dX12_canMake_7 ?_
  refine Ru_iald (pc := 8) dX12_canMake_8 rfl (by omega) ?_
  refine Ru_top (hc (53 + m) (by omega)) ?_
  refine Ru_iconst (pc := 9) (nI 1) dX12_canMake_9 rfl ?_
  refine Ru_icmp_neN (pc := 10) 29 dX12_canMake_10 (by decide) (by omega) (fun h1 => ?_) (fun h1 => ?_)
  · refine Ru_iconst (pc := 29) (nI 0) dX12_canMake_29 rfl ?_
    refine Ru_zret (pc := 30) dX12_canMake_30 rfl ⟨Nat.le_refl _, Nat.le_refl _⟩ (Or.inl rfl) ?_
    refine r_qe (r_b_f ?_) k
    unfold lCan
    rw [Bool.and_eq_false_iff]
    simp only [decide_eq_false_iff_not]
    omega
  · refine Ru_aload_n (pc := 13) dX12_canMake_13 rfl rfl ?_
    refine Ru_iload_n (pc := 14) dX12_canMake_14 rfl rfl ?_
    refine Ru_cv1 (pc := 15) dX12_canMake_15 mv_X12_407 rfl (by decide) (Nat.le_of_ble_eq_true rfl) (c_X12_needsS hc wf (by omega) ?_) 
    refine Ru_iload_n (pc := 18) dX12_canMake_18 rfl rfl ?_
    refine Ru_iconst (pc := 19) (-1) dX12_canMake_19 rfl ?_
    refine Ru_ixor (pc := 20) dX12_canMake_20 ?_
    refine Ru_idifN (pc := 21) dX12_canMake_21 ?_
    refine Ru_if_neN (pc := 22) 29 dX12_canMake_22 (by decide) (Nat.lt_of_le_of_lt (r_dif_le _ _) (by omega)) (fun h2 => ?_) (fun h2 => ?_)
    · refine Ru_iconst (pc := 29) (nI 0) dX12_canMake_29 rfl ?_
      refine Ru_zret (pc := 30) dX12_canMake_30 rfl ⟨Nat.le_refl _, Nat.le_refl _⟩ (Or.inl rfl) ?_
      refine r_qe (r_b_f ?_) k
      unfold lCan
      rw [Bool.and_eq_false_iff]
      simp only [decide_eq_false_iff_not]
      omega
    · refine Ru_iconst (pc := 25) (nI 1) dX12_canMake_25 rfl ?_
      refine Ru_goto (pc := 26) 30 dX12_canMake_26 (by decide) ?_
      refine Ru_zret (pc := 30) dX12_canMake_30 rfl ⟨Nat.le_refl _, Nat.le_refl _⟩ (Or.inr rfl) ?_
      refine r_qe (r_b_t ?_) k
      unfold lCan
      simp only [Bool.and_eq_true, decide_eq_true_eq]
      omega

theorem l_X12_labour1 {Q : Rq} {M0 : Mem} {w z : Nat} {d : Td} (hc0 : ∀ k, k < 521 → M0.1 5 k = nI (d k)) (wf : Wf d) (hws : w < 2 ^ d 0) (hzs : z < 2 ^ d 0) (k : ∀ M, (∀ k, k < 256 → M.1 17 k = nM 0) → r_fx [] [17] M0 M → Ru 2 mt_X12_labour r_z 54 [(0, some (.ref 0)), (1, some (.int (nI w))), (2, some (.int (nI z)))] [] GY M Q) : ∀ (zw : Nat) (n : Nat) (M : Mem), 256 - n = zw → (n ≤ 256) → (∀ k, k < n → M.1 17 k = nM 0) → (r_fx [] [17] M0 M) → Ru 2 mt_X12_labour r_z 34 [(3, some (.int (nI n))), (0, some (.ref 0)), (1, some (.int (nI w))), (2, some (.int (nI z)))] [] GY M Q := by
  intro zw
  induction zw using Nat.strongRecOn with
  | ind zw ih =>
    intro n M hw hn h17 fx
    subst hw
    refine Ru_iload_n (pc := 34) dX12_labour_34 rfl rfl ?_
    refine Ru_sipush (pc := 35) (nI 256) dX12_labour_35 rfl ?_
    refine Ru_icmp_geN (pc := 38) 54 dX12_labour_38 (by decide) (by omega) (fun h1 => ?_) (fun h1 => ?_)
    · have e8 : n = 256 := by omega
      subst e8
      exact Ru_weak (k _ h17 fx) rfl
    · refine Ru_aload_n (pc := 41) dX12_labour_41 rfl rfl ?_
      refine Ru_getR (pc := 42) 17 dX12_labour_42 fl_X12_72 rfl rfl rfl ?_
      refine Ru_iload_n (pc := 45) dX12_labour_45 rfl rfl ?_
      refine Ru_iconst (pc := 46) (-1) dX12_labour_46 rfl ?_
      refine Ru_iast (pc := 47) rfl dX12_labour_47 rfl (by omega) ?_
      refine Ru_iincN (pc := 48) 1 dX12_labour_48 rfl rfl rfl (by decide) ?_
      refine Ru_goto (pc := 51) 34 dX12_labour_51 (by decide) ?_
      exact Ru_weak (ih (256 - (n + 1)) (by omega) (n + 1) _ rfl (by omega) (r_ext h17 rfl) (r_fx.sI rfl fx)) rfl

theorem l_X12_labour4 {Q : Rq} {M0 : Mem} {w z : Nat} {d : Td} (hc0 : ∀ k, k < 521 → M0.1 5 k = nI (d k)) (wf : Wf d) (hws : w < 2 ^ d 0) (hzs : z < 2 ^ d 0) {s P0 : Nat} (hss : s < 2 ^ d 0) (k : ∀ (c : Bool) (L : Nat → Nat) (M : Mem), lS d z P0 (s + 1) 0 c L → (∀ k, k < 256 → M.1 17 k = nM (L k)) → r_fx [] [17] M0 M → Ru 2 mt_X12_labour r_z 215 [(3, some (.int (r_b c))), (4, some (.int (nI s))), (0, some (.ref 0)), (1, some (.int (nI w))), (2, some (.int (nI z)))] [] GY M Q) : ∀ (zw : Nat) (m : Nat) (c : Bool) (L : Nat → Nat) (M : Mem), d 1 - m = zw → (m ≤ d 1) → (lS d z P0 s m c L) → (∀ k, k < 256 → M.1 17 k = nM (L k)) → (r_fx [] [17] M0 M) → Ru 2 mt_X12_labour r_z 88 [(3, some (.int (r_b c))), (5, some (.int (nI m))), (4, some (.int (nI s))), (0, some (.ref 0)), (1, some (.int (nI w))), (2, some (.int (nI z)))] [] GY M Q := by
  intro zw
  induction zw using Nat.strongRecOn with
  | ind zw ih =>
    intro m c L M hw hn hI hL fx
    subst hw
    have hb := wf.1
    have hp := pw_le hb.1
    have em : (-1 : Int32).toInt = -1 := rfl
    have hc : ∀ k, k < 521 → M.1 5 k = nI (d k) := fun k hk => (fx 5 k rfl).1.trans (hc0 k hk)
    have hbs := lB_le hI.2.2.1 (show s < 256 by omega)
    have hzs2 : (nM (L s)).toInt = (L s : Int) - 1 := nM_t (by omega)
    refine Ru_iload (pc := 88) dX12_labour_88 rfl ?_
    refine Ru_aload_n (pc := 90) dX12_labour_90 rfl rfl ?_
    refine Ru_getR (pc := 91) 5 dX12_labour_91 fl_X12_35 rfl rfl rfl ?_
    refine Ru_iconst (pc := 94) (nI 1) dX12_labour_94 rfl ?_
    refine Ru_iald (pc := 95) dX12_labour_95 rfl (by omega) ?_
    refine Ru_top (hc 1 (by omega)) ?_
    refine Ru_icmp_geN (pc := 96) 215 dX12_labour_96 (by decide) (by omega) (fun h1 => ?_) (fun h1 => ?_)
    · exact Ru_weak (k c L _ (lS_row hI (by omega)) hL fx) rfl
    · refine Ru_aload_n (pc := 99) dX12_labour_99 rfl rfl ?_
      refine Ru_getR (pc := 100) 17 dX12_labour_100 fl_X12_72 rfl rfl rfl ?_
      refine Ru_iload (pc := 103) dX12_labour_103 rfl ?_
      refine Ru_iald (pc := 105) dX12_labour_105 rfl (by omega) ?_
      refine Ru_top (hL s (by omega)) ?_
      refine Ru_if_ltT (pc := 106) 215 dX12_labour_106 (by decide) (fun h2 => ?_) (fun h2 => ?_)
      · exact Ru_weak (k c L _ (lS_row hI (by omega)) hL fx) rfl
      · obtain ⟨c1, es⟩ : ∃ c1, L s = c1 + 1 := ⟨L s - 1, by omega⟩
        have hm5 := wf.2.2.2.2.1 m (by omega)
        refine Ru_aload_n (pc := 109) dX12_labour_109 rfl rfl ?_
        refine Ru_iload (pc := 110) dX12_labour_110 rfl ?_
        refine Ru_iload (pc := 112) dX12_labour_112 rfl ?_
        refine Ru_cv2 (pc := 114) dX12_labour_114 mv_X12_421 rfl (by decide) (Nat.le_of_ble_eq_true rfl) (c_X12_canMake hc wf (by omega) ?_) 
        refine Ru_if_neB (pc := 117) 123 dX12_labour_117 (by decide) (fun h3 => ?_) (fun h3 => ?_)
        · refine Ru_iload (pc := 123) dX12_labour_123 rfl ?_
          refine Ru_aload_n (pc := 125) dX12_labour_125 rfl rfl ?_
          refine Ru_getR (pc := 126) 5 dX12_labour_126 fl_X12_35 rfl rfl rfl ?_
          refine Ru_bipush (pc := 129) (nI 65) dX12_labour_129 rfl ?_
          refine Ru_iload (pc := 131) dX12_labour_131 rfl ?_
          refine Ru_iaddN (pc := 133) dX12_labour_133 ?_
          refine Ru_iald (pc := 134) dX12_labour_134 rfl (by omega) ?_
          refine Ru_top (hc (65 + m) (by omega)) ?_
          refine Ru_iconst (pc := 135) (-1) dX12_labour_135 rfl ?_
          refine Ru_ixor (pc := 136) dX12_labour_136 ?_
          refine Ru_idifN (pc := 137) dX12_labour_137 ?_
          refine Ru_iconst (pc := 138) (nI 1) dX12_labour_138 rfl ?_
          refine Ru_aload_n (pc := 139) dX12_labour_139 rfl rfl ?_
          refine Ru_getR (pc := 140) 5 dX12_labour_140 fl_X12_35 rfl rfl rfl ?_
          refine Ru_bipush (pc := 143) (nI 29) dX12_labour_143 rfl ?_
          refine Ru_iload (pc := 145) dX12_labour_145 rfl ?_
          refine Ru_iaddN (pc := 147) dX12_labour_147 ?_
          refine Ru_iald (pc := 148) dX12_labour_148 rfl (by omega) ?_
          refine Ru_top (hc (29 + m) (by omega)) ?_
          refine Ru_ishl1N (pc := 149) dX12_labour_149 (by omega) ?_
          refine Ru_iorN (pc := 150) dX12_labour_150 ?_
          refine Ru_top (show nI (r_dif s (d (65 + m)) ||| 2 ^ (d (29 + m))) = nI (lMade d m s) from rfl) ?_
          have hml := lMade_lt wf (m := m) (by omega) hss
          have hbm := lB_le hI.2.2.1 (show lMade d m s < 256 by omega)
          have hzm : (nM (L (lMade d m s))).toInt = (L (lMade d m s) : Int) - 1 := nM_t (by omega)
          refine Ru_istore (pc := 151) dX12_labour_151 rfl (by decide) ?_
          refine Ru_aload_n (pc := 153) dX12_labour_153 rfl rfl ?_
          refine Ru_getR (pc := 154) 17 dX12_labour_154 fl_X12_72 rfl rfl rfl ?_
          refine Ru_iload (pc := 157) dX12_labour_157 rfl ?_
          refine Ru_iald (pc := 159) dX12_labour_159 rfl (by omega) ?_
          refine Ru_top ((hL s (by omega)).trans (by rw [es])) ?_
          refine Ru_aload_n (pc := 160) dX12_labour_160 rfl rfl ?_
          refine Ru_getR (pc := 161) 5 dX12_labour_161 fl_X12_35 rfl rfl rfl ?_
          refine Ru_bipush (pc := 164) (nI 41) dX12_labour_164 rfl ?_
          refine Ru_iload (pc := 166) dX12_labour_166 rfl ?_
          refine Ru_iaddN (pc := 168) dX12_labour_168 ?_
          refine Ru_iald (pc := 169) dX12_labour_169 rfl (by omega) ?_
          refine Ru_top (hc (41 + m) (by omega)) ?_
          refine Ru_iaddN (pc := 170) dX12_labour_170 ?_
          refine Ru_istore (pc := 171) dX12_labour_171 rfl (by decide) ?_
          refine Ru_aload_n (pc := 173) dX12_labour_173 rfl rfl ?_
          refine Ru_getR (pc := 174) 17 dX12_labour_174 fl_X12_72 rfl rfl rfl ?_
          refine Ru_iload (pc := 177) dX12_labour_177 rfl ?_
          refine Ru_iald (pc := 179) dX12_labour_179 rfl (by omega) ?_
          refine Ru_top (hL (lMade d m s) (by omega)) ?_
          refine Ru_if_ltT (pc := 180) 198 dX12_labour_180 (by decide) (fun h4 => ?_) (fun h4 => ?_)
          · refine Ru_aload_n (pc := 198) dX12_labour_198 rfl rfl ?_
            refine Ru_getR (pc := 199) 17 dX12_labour_199 fl_X12_72 rfl rfl rfl ?_
            refine Ru_iload (pc := 202) dX12_labour_202 rfl ?_
            refine Ru_iload (pc := 204) dX12_labour_204 rfl ?_
            refine Ru_iast (pc := 206) rfl dX12_labour_206 rfl (by omega) ?_
            refine Ru_iconst (pc := 207) (nI 1) dX12_labour_207 rfl ?_
            refine Ru_istore_n (pc := 208) dX12_labour_208 rfl rfl (by decide) ?_
            refine Ru_iincN (pc := 209) 1 dX12_labour_209 rfl rfl rfl (by decide) ?_
            refine Ru_goto (pc := 212) 88 dX12_labour_212 (by decide) ?_
            have hI2 := lS_new wf (m := m) (L' := fun k => if k = lMade d m s then c1 + d (41 + m) + 1 else L k) hss (by omega) hI es (by assumption) (by omega) (fun k => rfl)
            exact Ru_weak (ih (d 1 - (m + 1)) (by omega) (m + 1) true _ _ rfl (by omega) hI2 (r_upd hL (fun _ => by rw [if_pos rfl]; rfl) (fun j _ hj => by rw [if_neg hj])) (r_fx.sI rfl fx)) rfl
          · refine Ru_iload (pc := 183) dX12_labour_183 rfl ?_
            refine Ru_aload_n (pc := 185) dX12_labour_185 rfl rfl ?_
            refine Ru_getR (pc := 186) 17 dX12_labour_186 fl_X12_72 rfl rfl rfl ?_
            refine Ru_iload (pc := 189) dX12_labour_189 rfl ?_
            refine Ru_iald (pc := 191) dX12_labour_191 rfl (by omega) ?_
            refine Ru_top (hL (lMade d m s) (by omega)) ?_
            refine Ru_icmp_ltR (pc := 192) 198 dX12_labour_192 (by decide) (by omega) (fun h5 => ?_) (fun h5 => ?_)
            · refine Ru_aload_n (pc := 198) dX12_labour_198 rfl rfl ?_
              refine Ru_getR (pc := 199) 17 dX12_labour_199 fl_X12_72 rfl rfl rfl ?_
              refine Ru_iload (pc := 202) dX12_labour_202 rfl ?_
              refine Ru_iload (pc := 204) dX12_labour_204 rfl ?_
              refine Ru_iast (pc := 206) rfl dX12_labour_206 rfl (by omega) ?_
              refine Ru_iconst (pc := 207) (nI 1) dX12_labour_207 rfl ?_
              refine Ru_istore_n (pc := 208) dX12_labour_208 rfl rfl (by decide) ?_
              refine Ru_iincN (pc := 209) 1 dX12_labour_209 rfl rfl rfl (by decide) ?_
              refine Ru_goto (pc := 212) 88 dX12_labour_212 (by decide) ?_
              have hI2 := lS_new wf (m := m) (L' := fun k => if k = lMade d m s then c1 + d (41 + m) + 1 else L k) hss (by omega) hI es (by assumption) (by omega) (fun k => rfl)
              exact Ru_weak (ih (d 1 - (m + 1)) (by omega) (m + 1) true _ _ rfl (by omega) hI2 (r_upd hL (fun _ => by rw [if_pos rfl]; rfl) (fun j _ hj => by rw [if_neg hj])) (r_fx.sI rfl fx)) rfl
            · refine Ru_goto (pc := 195) 209 dX12_labour_195 (by decide) ?_
              refine Ru_iincN (pc := 209) 1 dX12_labour_209 rfl rfl rfl (by decide) ?_
              refine Ru_goto (pc := 212) 88 dX12_labour_212 (by decide) ?_
              exact Ru_weak (ih (d 1 - (m + 1)) (by omega) (m + 1) c _ _ rfl (by omega) (lS_same hI (fun c2 q _ => ⟨L (lMade d m s) - 1, by omega, by omega⟩)) hL fx) rfl
        · refine Ru_goto (pc := 120) 209 dX12_labour_120 (by decide) ?_
          refine Ru_iincN (pc := 209) 1 dX12_labour_209 rfl rfl rfl (by decide) ?_
          refine Ru_goto (pc := 212) 88 dX12_labour_212 (by decide) ?_
          exact Ru_weak (ih (d 1 - (m + 1)) (by omega) (m + 1) c _ _ rfl (by omega) (lS_same hI (fun c2 _ q => by simp_all)) hL fx) rfl

theorem l_X12_labour3 {Q : Rq} {M0 : Mem} {w z : Nat} {d : Td} (hc0 : ∀ k, k < 521 → M0.1 5 k = nI (d k)) (wf : Wf d) (hws : w < 2 ^ d 0) (hzs : z < 2 ^ d 0) {P0 : Nat} (k : ∀ (c : Bool) (L : Nat → Nat) (M : Mem), lS d z P0 (2 ^ d 0) 0 c L → (∀ k, k < 256 → M.1 17 k = nM (L k)) → r_fx [] [17] M0 M → Ru 2 mt_X12_labour r_z 63 [(3, some (.int (r_b c))), (0, some (.ref 0)), (1, some (.int (nI w))), (2, some (.int (nI z)))] [] GY M Q) : ∀ (zw : Nat) (s : Nat) (c : Bool) (L : Nat → Nat) (M : Mem), 2 ^ d 0 - s = zw → (s ≤ 2 ^ d 0) → (lS d z P0 s 0 c L) → (∀ k, k < 256 → M.1 17 k = nM (L k)) → (r_fx [] [17] M0 M) → Ru 2 mt_X12_labour r_z 72 [(3, some (.int (r_b c))), (4, some (.int (nI s))), (0, some (.ref 0)), (1, some (.int (nI w))), (2, some (.int (nI z)))] [] GY M Q := by
  intro zw
  induction zw using Nat.strongRecOn with
  | ind zw ih =>
    intro s c L M hw hn hI hL fx
    subst hw
    have hb := wf.1
    have hp := pw_le hb.1
    have em : (-1 : Int32).toInt = -1 := rfl
    have hc : ∀ k, k < 521 → M.1 5 k = nI (d k) := fun k hk => (fx 5 k rfl).1.trans (hc0 k hk)
    refine Ru_iload (pc := 72) dX12_labour_72 rfl ?_
    refine Ru_iconst (pc := 74) (nI 1) dX12_labour_74 rfl ?_
    refine Ru_aload_n (pc := 75) dX12_labour_75 rfl rfl ?_
    refine Ru_getR (pc := 76) 5 dX12_labour_76 fl_X12_35 rfl rfl rfl ?_
    refine Ru_iconst (pc := 79) (nI 0) dX12_labour_79 rfl ?_
    refine Ru_iald (pc := 80) dX12_labour_80 rfl (by omega) ?_
    refine Ru_top (hc 0 (by omega)) ?_
    refine Ru_ishl1N (pc := 81) dX12_labour_81 (by omega) ?_
    refine Ru_icmp_geN (pc := 82) 221 dX12_labour_82 (by decide) (by omega) (fun h1 => ?_) (fun h1 => ?_)
    · refine Ru_goto (pc := 221) 63 dX12_labour_221 (by decide) ?_
      have ep : s = 2 ^ d 0 := by omega
      subst ep
      exact Ru_weak (k c L _ hI hL fx) rfl
    · refine Ru_iconst (pc := 85) (nI 0) dX12_labour_85 rfl ?_
      refine Ru_istore (pc := 86) dX12_labour_86 rfl (by decide) ?_
      refine Ru_weak (l_X12_labour4 (M0 := M0) hc0 wf hws hzs (show s < 2 ^ d 0 by omega) (fun c' L' M' gI gL gx => ?_) (d 1) 0 c L M rfl (Nat.zero_le _) hI hL fx) rfl
      refine Ru_iincN (pc := 215) 1 dX12_labour_215 rfl rfl rfl (by decide) ?_
      refine Ru_goto (pc := 218) 72 dX12_labour_218 (by decide) ?_
      exact Ru_weak (ih (2 ^ d 0 - (s + 1)) (by omega) (s + 1) c' L' M' rfl (by omega) gI gL gx) rfl

theorem l_X12_labour2 {Q : Rq} {M0 : Mem} {w z : Nat} {d : Td} (hc0 : ∀ k, k < 521 → M0.1 5 k = nI (d k)) (wf : Wf d) (hws : w < 2 ^ d 0) (hzs : z < 2 ^ d 0) (k : ∀ (L : Nat → Nat) (M : Mem), lReal d z L → L z = 1 → lB L → (∀ s m, m < d 1 → lCl d L s m) → (∀ k, k < 256 → M.1 17 k = nM (L k)) → r_fx [] [17] M0 M → Ru 2 mt_X12_labour r_z 224 [(0, some (.ref 0)), (1, some (.int (nI w))), (2, some (.int (nI z)))] [] GY M Q) : ∀ (zw : Nat) (c : Bool) (L : Nat → Nat) (M : Mem), 2 * lPhi L + (if c = true then 1 else 0) = zw → (lReal d z L) → (L z = 1) → (lB L) → (c = false → ∀ s m, m < d 1 → lCl d L s m) → (∀ k, k < 256 → M.1 17 k = nM (L k)) → (r_fx [] [17] M0 M) → Ru 2 mt_X12_labour r_z 63 [(3, some (.int (r_b c))), (0, some (.ref 0)), (1, some (.int (nI w))), (2, some (.int (nI z)))] [] GY M Q := by
  intro zw
  induction zw using Nat.strongRecOn with
  | ind zw ih =>
    intro c L M hw hR hz1 hB hF hL fx
    subst hw
    have hb := wf.1
    have hp := pw_le hb.1
    have em : (-1 : Int32).toInt = -1 := rfl
    have hc : ∀ k, k < 521 → M.1 5 k = nI (d k) := fun k hk => (fx 5 k rfl).1.trans (hc0 k hk)
    refine Ru_iload_n (pc := 63) dX12_labour_63 rfl rfl ?_
    refine Ru_if_eqB (pc := 64) 224 dX12_labour_64 (by decide) (fun h1 => ?_) (fun h1 => ?_)
    · exact Ru_weak (k L _ hR hz1 hB (hF (by assumption)) hL fx) rfl
    · refine Ru_iconst (pc := 67) (nI 0) dX12_labour_67 rfl ?_
      refine Ru_istore_n (pc := 68) dX12_labour_68 rfl rfl (by decide) ?_
      refine Ru_iconst (pc := 69) (nI 0) dX12_labour_69 rfl ?_
      refine Ru_istore (pc := 70) dX12_labour_70 rfl (by decide) ?_
      refine Ru_weak (l_X12_labour3 (M0 := M0) (P0 := lPhi L) hc0 wf hws hzs (fun c' L' M' gI gL gx => ?_) (2 ^ d 0) 0 false L _ rfl (Nat.zero_le _) ⟨hR, hz1, hB, Nat.le_refl _, fun z => (by cases z), fun _ => ⟨fun s' hs' => by omega, fun m' hm' => by omega⟩⟩ hL fx) rfl
      refine Ru_weak (ih (2 * lPhi L' + if c' = true then 1 else 0) ?_ c' L' M' rfl gI.1 gI.2.1 gI.2.2.1 (fun z s m hm => ?_) gL gx) rfl
      · have h4 := gI.2.2.2.1
        have h5 := gI.2.2.2.2.1
        cases c'
        · simp_all <;> omega
        · have := h5 rfl
          simp_all <;> omega
      · by_cases hs : s < 2 ^ d 0
        · exact (gI.2.2.2.2.2 z).1 s hs m hm
        · intro c2 q
          exact absurd (gI.1 s c2 q).1 hs

theorem lMin_b {L : Nat → Nat} {w B : Nat} (h : ∀ k, k < 256 → L k ≤ B) : ∀ p, p ≤ 256 → lMin L w p ≤ B
  | 0, _ => Nat.zero_le _
  | p + 1, hp => by
    have := lMin_b (w := w) h p (by omega)
    have := h p (by omega)
    rw [lMin]
    split <;> omega

theorem l_X12_labour5 {Q : Rq} {M : Mem} {w z : Nat} {d : Td} {L : Nat → Nat} (hc : ∀ k, k < 521 → M.1 5 k = nI (d k)) (wf : Wf d) (hws : w < 2 ^ d 0) (hB : lB L) (hL : ∀ k, k < 256 → M.1 17 k = nM (L k)) (k : Ru 2 mt_X12_labour r_z 294 [(4, some (.int (nM (lMin L w (2 ^ d 0))))), (0, some (.ref 0)), (1, some (.int (nI w))), (2, some (.int (nI z)))] [] GY M Q) : ∀ (zw : Nat) (p : Nat), 2 ^ d 0 - p = zw → (p ≤ 2 ^ d 0) → Ru 2 mt_X12_labour r_z 230 [(4, some (.int (nM (lMin L w p)))), (5, some (.int (nI p))), (0, some (.ref 0)), (1, some (.int (nI w))), (2, some (.int (nI z)))] [] GY M Q := by
  intro zw
  induction zw using Nat.strongRecOn with
  | ind zw ih =>
    intro p hw hn
    subst hw
    have hb := wf.1
    have hp := pw_le hb.1
    have em : (-1 : Int32).toInt = -1 := rfl
    have hlp : p < 2 ^ d 0 → L p ≤ 6145 := fun hq => lB_le hB (by omega)
    have hlm := lMin_b (L := L) (w := w) (fun k hk => lB_le hB hk) p (by omega)
    have hz : (nM (lMin L w p)).toInt = (lMin L w p : Int) - 1 := nM_t (by omega)
    have hzp : p < 2 ^ d 0 → (nM (L p)).toInt = (L p : Int) - 1 := fun hq => nM_t (by have := hlp hq; omega)
    refine Ru_iload (pc := 230) dX12_labour_230 rfl ?_
    refine Ru_iconst (pc := 232) (nI 1) dX12_labour_232 rfl ?_
    refine Ru_aload_n (pc := 233) dX12_labour_233 rfl rfl ?_
    refine Ru_getR (pc := 234) 5 dX12_labour_234 fl_X12_35 rfl rfl rfl ?_
    refine Ru_iconst (pc := 237) (nI 0) dX12_labour_237 rfl ?_
    refine Ru_iald (pc := 238) dX12_labour_238 rfl (by omega) ?_
    refine Ru_top (hc 0 (by omega)) ?_
    refine Ru_ishl1N (pc := 239) dX12_labour_239 (by omega) ?_
    refine Ru_icmp_geN (pc := 240) 294 dX12_labour_240 (by decide) (by omega) (fun h1 => ?_) (fun h1 => ?_)
    · have ep : p = 2 ^ d 0 := by omega
      subst ep
      exact Ru_weak k rfl
    · refine Ru_iload_n (pc := 243) dX12_labour_243 rfl rfl ?_
      refine Ru_iload (pc := 244) dX12_labour_244 rfl ?_
      refine Ru_iconst (pc := 246) (-1) dX12_labour_246 rfl ?_
      refine Ru_ixor (pc := 247) dX12_labour_247 ?_
      refine Ru_idifN (pc := 248) dX12_labour_248 ?_
      refine Ru_if_neN (pc := 249) 288 dX12_labour_249 (by decide) (Nat.lt_of_le_of_lt (r_dif_le _ _) (by omega)) (fun h2 => ?_) (fun h2 => ?_)
      · refine Ru_iincN (pc := 288) 1 dX12_labour_288 rfl rfl rfl (by decide) ?_
        refine Ru_goto (pc := 291) 230 dX12_labour_291 (by decide) ?_
        have e : lMin L w (p + 1) = lMin L w p := by
          rw [lMin]
          refine if_neg (fun z => ?_)
          obtain ⟨z1, z2, z3⟩ := z
          omega
        have hr := ih (2 ^ d 0 - (p + 1)) (by omega) (p + 1) rfl (by omega)
        rw [e] at hr
        exact Ru_weak hr rfl
      · refine Ru_aload_n (pc := 252) dX12_labour_252 rfl rfl ?_
        refine Ru_getR (pc := 253) 17 dX12_labour_253 fl_X12_72 rfl rfl rfl ?_
        refine Ru_iload (pc := 256) dX12_labour_256 rfl ?_
        refine Ru_iald (pc := 258) dX12_labour_258 rfl (by omega) ?_
        refine Ru_top (hL p (by omega)) ?_
        refine Ru_if_ltT (pc := 259) 288 dX12_labour_259 (by decide) (fun h3 => ?_) (fun h3 => ?_)
        · refine Ru_iincN (pc := 288) 1 dX12_labour_288 rfl rfl rfl (by decide) ?_
          refine Ru_goto (pc := 291) 230 dX12_labour_291 (by decide) ?_
          have e : lMin L w (p + 1) = lMin L w p := by
            rw [lMin]
            refine if_neg (fun z => ?_)
            obtain ⟨z1, z2, z3⟩ := z
            omega
          have hr := ih (2 ^ d 0 - (p + 1)) (by omega) (p + 1) rfl (by omega)
          rw [e] at hr
          exact Ru_weak hr rfl
        · refine Ru_iload (pc := 262) dX12_labour_262 rfl ?_
          refine Ru_if_ltT (pc := 264) 279 dX12_labour_264 (by decide) (fun h4 => ?_) (fun h4 => ?_)
          · refine Ru_aload_n (pc := 279) dX12_labour_279 rfl rfl ?_
            refine Ru_getR (pc := 280) 17 dX12_labour_280 fl_X12_72 rfl rfl rfl ?_
            refine Ru_iload (pc := 283) dX12_labour_283 rfl ?_
            refine Ru_iald (pc := 285) dX12_labour_285 rfl (by omega) ?_
            refine Ru_top (hL p (by omega)) ?_
            refine Ru_istore (pc := 286) dX12_labour_286 rfl (by decide) ?_
            refine Ru_iincN (pc := 288) 1 dX12_labour_288 rfl rfl rfl (by decide) ?_
            refine Ru_goto (pc := 291) 230 dX12_labour_291 (by decide) ?_
            have e : lMin L w (p + 1) = L p := by
              rw [lMin]
              exact if_pos ⟨by omega, by omega, by omega⟩
            have hr := ih (2 ^ d 0 - (p + 1)) (by omega) (p + 1) rfl (by omega)
            rw [e] at hr
            exact Ru_weak hr rfl
          · refine Ru_aload_n (pc := 267) dX12_labour_267 rfl rfl ?_
            refine Ru_getR (pc := 268) 17 dX12_labour_268 fl_X12_72 rfl rfl rfl ?_
            refine Ru_iload (pc := 271) dX12_labour_271 rfl ?_
            refine Ru_iald (pc := 273) dX12_labour_273 rfl (by omega) ?_
            refine Ru_top (hL p (by omega)) ?_
            refine Ru_iload (pc := 274) dX12_labour_274 rfl ?_
            refine Ru_icmp_geT (pc := 276) 288 dX12_labour_276 (by decide) (fun h5 => ?_) (fun h5 => ?_)
            · refine Ru_iincN (pc := 288) 1 dX12_labour_288 rfl rfl rfl (by decide) ?_
              refine Ru_goto (pc := 291) 230 dX12_labour_291 (by decide) ?_
              have e : lMin L w (p + 1) = lMin L w p := by
                rw [lMin]
                refine if_neg (fun z => ?_)
                obtain ⟨z1, z2, z3⟩ := z
                omega
              have hr := ih (2 ^ d 0 - (p + 1)) (by omega) (p + 1) rfl (by omega)
              rw [e] at hr
              exact Ru_weak hr rfl
            · refine Ru_aload_n (pc := 279) dX12_labour_279 rfl rfl ?_
              refine Ru_getR (pc := 280) 17 dX12_labour_280 fl_X12_72 rfl rfl rfl ?_
              refine Ru_iload (pc := 283) dX12_labour_283 rfl ?_
              refine Ru_iald (pc := 285) dX12_labour_285 rfl (by omega) ?_
              refine Ru_top (hL p (by omega)) ?_
              refine Ru_istore (pc := 286) dX12_labour_286 rfl (by decide) ?_
              refine Ru_iincN (pc := 288) 1 dX12_labour_288 rfl rfl rfl (by decide) ?_
              refine Ru_goto (pc := 291) 230 dX12_labour_291 (by decide) ?_
              have e : lMin L w (p + 1) = L p := by
                rw [lMin]
                exact if_pos ⟨by omega, by omega, by omega⟩
              have hr := ih (2 ^ d 0 - (p + 1)) (by omega) (p + 1) rfl (by omega)
              rw [e] at hr
              exact Ru_weak hr rfl

theorem c_X12_labour {Q : Rq} {M : Mem} {d : Td} {w s : Int32} (hy : Y_tm 0 d M) (wf : Wf d) (k : ∀ M', r_fx [(0, 0), (0, 1)] [17] M M' → M'.1 0 0 = nI (g_labour d w s).2 → Q (some (.int (g_labour d w s).1)) GY M') : Ca 2 mt_X12_labour 0 0 [.ref 0, .int w, .int s] GY M Q := by
  refine Ca_of rfl (Nat.le_of_ble_eq_true rfl) ?_
  have hb := wf.1
  have hp := pw_le hb.1
  have hc : ∀ k, k < 521 → M.1 5 k = nI (d k) := Y_tm_z hy
  refine Ru_aload_n (pc := 0) dX12_labour_0 rfl rfl ?_
  refine Ru_iconst (pc := 1) (nI 0) dX12_labour_1 rfl ?_
  refine Ru_putI (pc := 2) rfl dX12_labour_2 fl_X12_87 rfl ?_
  refine Ru_aload_n (pc := 5) dX12_labour_5 rfl rfl ?_
  refine Ru_iconst (pc := 6) (nI 0) dX12_labour_6 rfl ?_
  refine Ru_putI (pc := 7) rfl dX12_labour_7 fl_X12_90 rfl ?_
  refine Ru_aload_n (pc := 10) dX12_labour_10 rfl rfl ?_
  refine Ru_iload_n (pc := 11) dX12_labour_11 rfl rfl ?_
  refine Ru_cv1 (pc := 12) dX12_labour_12 mv_X12_386 rfl (by decide) (Nat.le_of_ble_eq_true rfl) (c_X12_isSet (fun k hk => ((r_sI_n (by omega)).trans ((r_sI_n (by omega)).trans (hc k hk)))) wf ?_) 
  refine Ru_if_eqB (pc := 15) 26 dX12_labour_15 (by decide) (fun h1 => ?_) (fun h1 => ?_)
  · replace h1 := of_decide_eq_false h1
    refine Ru_aload_n (pc := 26) dX12_labour_26 rfl rfl ?_
    refine Ru_iconst (pc := 27) (nI 2) dX12_labour_27 rfl ?_
    refine Ru_cv1 (pc := 28) dX12_labour_28 mv_X12_351 rfl (by decide) (Nat.le_of_ble_eq_true rfl) (c_X12_refuse ?_) 
    refine Ru_iret (pc := 31) dX12_labour_31 rfl ⟨Nat.le_refl _, Nat.le_refl _⟩ ?_
    have e : g_labour d w s = (-1, 2) := by
      unfold g_labour
      rw [if_pos (by omega)]
    rw [e] at k
    exact k _ (r_fx.sI rfl (r_fx.sI rfl (r_fx.sI rfl r_fx.rf))) r_sI_s
  · replace h1 := of_decide_eq_true h1
    refine Ru_aload_n (pc := 18) dX12_labour_18 rfl rfl ?_
    refine Ru_iload_n (pc := 19) dX12_labour_19 rfl rfl ?_
    refine Ru_cv1 (pc := 20) dX12_labour_20 mv_X12_386 rfl (by decide) (Nat.le_of_ble_eq_true rfl) (c_X12_isSet (fun k hk => ((r_sI_n (by omega)).trans ((r_sI_n (by omega)).trans (hc k hk)))) wf ?_) 
    refine Ru_if_neB (pc := 23) 32 dX12_labour_23 (by decide) (fun h2 => ?_) (fun h2 => ?_)
    · replace h2 := of_decide_eq_true h2
      obtain ⟨w', hw', rfl⟩ := r_nat (x := w) (n := 256) (by omega) (by omega)
      have ew := r_tn (show w' < 2147483648 by omega)
      obtain ⟨s', hs', rfl⟩ := r_nat (x := s) (n := 256) (by omega) (by omega)
      have es := r_tn (show s' < 2147483648 by omega)
      refine Ru_iconst (pc := 32) (nI 0) dX12_labour_32 rfl ?_
      refine Ru_istore_n (pc := 33) dX12_labour_33 rfl rfl (by decide) ?_
      have fx0 : r_fx [(0, 0), (0, 1)] [17] M (r_sI (r_sI M 0 1 (nI 0)) 0 0 (nI 0)) := (r_fx.sI rfl (r_fx.sI rfl r_fx.rf))
      have hc1 : ∀ k, k < 521 → (r_sI (r_sI M 0 1 (nI 0)) 0 0 (nI 0)).1 5 k = nI (d k) := (fun k hk => ((r_sI_n (by omega)).trans ((r_sI_n (by omega)).trans (hc k hk))))
      have hst1 : (r_sI (r_sI M 0 1 (nI 0)) 0 0 (nI 0)).1 0 0 = nI 0 := r_sI_s
      generalize r_sI (r_sI M 0 1 (nI 0)) 0 0 (nI 0) = M1 at *
      refine Ru_weak (l_X12_labour1 (M0 := M1) (w := w') (z := s') hc1 wf (by omega) (by omega) (fun M2 g17 gx2 => ?_) 256 0 M1 rfl (by omega) (fun k hk => by omega) r_fx.rf) rfl
      refine Ru_aload_n (pc := 54) dX12_labour_54 rfl rfl ?_
      refine Ru_getR (pc := 55) 17 dX12_labour_55 fl_X12_72 rfl rfl rfl ?_
      refine Ru_iload_n (pc := 58) dX12_labour_58 rfl rfl ?_
      refine Ru_iconst (pc := 59) (nI 0) dX12_labour_59 rfl ?_
      refine Ru_iast (pc := 60) rfl dX12_labour_60 rfl (by omega) ?_
      refine Ru_iconst (pc := 61) (nI 1) dX12_labour_61 rfl ?_
      refine Ru_istore_n (pc := 62) dX12_labour_62 rfl rfl (by decide) ?_
      refine Ru_weak (l_X12_labour2 (M0 := M1) (w := w') (z := s') hc1 wf (by omega) (by omega) (fun L M3 gR gz gB gC gL gx3 => ?_) _ true (fun k => if k = s' then 1 else 0) _ rfl (lReal_z (by omega)) (if_pos rfl) (fun k _ => by show (if k = s' then 1 else 0) ≤ _; split <;> omega) (fun z => by cases z) (r_upd g17 (fun _ => by rw [if_pos rfl]; rfl) (fun j _ hj => by rw [if_neg hj])) (r_fx.sI rfl gx2)) rfl
      have fx3 : r_fx [(0, 0), (0, 1)] [17] M M3 := fx0.tr (gx3.mono rfl)
      have hst3 : M3.1 0 0 = nI 0 := (gx3 0 0 rfl).1.trans hst1
      have hA := lMin_A (w := w') gz gR gC
      have hc3 : ∀ k, k < 521 → M3.1 5 k = nI (d k) := fun k hk => (gx3 5 k rfl).1.trans (hc1 k hk)
      have hlm := lMin_b (L := L) (w := w') (fun k hk => lB_le gB hk) (2 ^ d 0) (by omega)
      have hzm : (nM (lMin L w' (2 ^ d 0))).toInt = (lMin L w' (2 ^ d 0) : Int) - 1 := nM_t (by omega)
      refine Ru_iconst (pc := 224) (-1) dX12_labour_224 rfl ?_
      refine Ru_istore (pc := 225) dX12_labour_225 rfl (by decide) ?_
      refine Ru_iconst (pc := 227) (nI 0) dX12_labour_227 rfl ?_
      refine Ru_istore (pc := 228) dX12_labour_228 rfl (by decide) ?_
      refine Ru_weak (l_X12_labour5 (z := s') hc3 wf (by omega) gB gL ?_ (2 ^ d 0) 0 rfl (Nat.zero_le _)) rfl
      refine Ru_iload (pc := 294) dX12_labour_294 rfl ?_
      refine Ru_if_geT (pc := 296) 308 dX12_labour_296 (by decide) (fun h1 => ?_) (fun h1 => ?_)
      · refine Ru_iload (pc := 308) dX12_labour_308 rfl ?_
        refine Ru_iret (pc := 310) dX12_labour_310 rfl ⟨Nat.le_refl _, Nat.le_refl _⟩ ?_
        have e : g_labour d (nI w') (nI s') = ((nM (lMin L w' (2 ^ d 0))), 0) := by
          unfold g_labour
          rw [if_neg (by omega), r_tnn (show w' < 2147483648 by omega), r_tnn (show s' < 2147483648 by omega), lV_of hA]
          rw [if_neg (by omega)]
        rw [e] at k
        exact k _ fx3 hst3
      · refine Ru_aload_n (pc := 299) dX12_labour_299 rfl rfl ?_
        refine Ru_bipush (pc := 300) (nI 8) dX12_labour_300 rfl ?_
        refine Ru_cv1 (pc := 302) dX12_labour_302 mv_X12_351 rfl (by decide) (Nat.le_of_ble_eq_true rfl) (c_X12_refuse ?_) 
        refine Ru_goto (pc := 305) 310 dX12_labour_305 (by decide) ?_
        refine Ru_iret (pc := 310) dX12_labour_310 rfl ⟨Nat.le_refl _, Nat.le_refl _⟩ ?_
        have e : g_labour d (nI w') (nI s') = (-1, 8) := by
          unfold g_labour
          rw [if_neg (by omega), r_tnn (show w' < 2147483648 by omega), r_tnn (show s' < 2147483648 by omega), lV_of hA]
          rw [if_pos (by omega)]
        rw [e] at k
        exact k _ (r_fx.sI rfl fx3) r_sI_s
    · replace h2 := of_decide_eq_false h2
      refine Ru_aload_n (pc := 26) dX12_labour_26 rfl rfl ?_
      refine Ru_iconst (pc := 27) (nI 2) dX12_labour_27 rfl ?_
      refine Ru_cv1 (pc := 28) dX12_labour_28 mv_X12_351 rfl (by decide) (Nat.le_of_ble_eq_true rfl) (c_X12_refuse ?_) 
      refine Ru_iret (pc := 31) dX12_labour_31 rfl ⟨Nat.le_refl _, Nat.le_refl _⟩ ?_
      have e : g_labour d w s = (-1, 2) := by
        unfold g_labour
        rw [if_pos (by omega)]
      rw [e] at k
      exact k _ (r_fx.sI rfl (r_fx.sI rfl (r_fx.sI rfl r_fx.rf))) r_sI_s
