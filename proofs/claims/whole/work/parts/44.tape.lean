-- THE TAPE
def f_byte (x : Int32) (i : Nat) : Int32 := (x >>> (nI (8 * i) &&& 31)).toInt8.toInt32
def f_lay (x : Int32) (tp : Nat × (Nat → Int32)) : Nat × (Nat → Int32) := (tp.1 + 4, fun k => if k = tp.1 then f_byte x 3 else if k = tp.1 + 1 then f_byte x 2 else if k = tp.1 + 2 then f_byte x 1 else if k = tp.1 + 3 then f_byte x 0 else tp.2 k)
def f_feed (p q r s t : Int32) (tp : Nat × (Nat → Int32)) : Int32 × (Nat × (Nat → Int32)) := if 780 < tp.1 then (-1, tp) else (nI (tp.1 + 20), f_lay t (f_lay s (f_lay r (f_lay q (f_lay p tp)))))
theorem r_nb (y : Int32) : vp_nar FieldType.byte y.toInt8.toInt32 = y.toInt8.toInt32 := by
  first | (show (y.toInt8.toInt32).toInt8.toInt32 = y.toInt8.toInt32; simp; done) | (simp [vp_nar, narrow]; done) | (simp [vp_nar, Jvm.narrow]; done)
def Y_tp (tp : Nat × (Nat → Int32)) (M : Mem) : Prop := M.1 0 8 = nI tp.1 ∧ tp.1 ≤ 800 ∧ ∀ k, k < tp.1 → M.1 4 k = tp.2 k
def X_tp (tp : Nat × (Nat → Int32)) (M : Mem) : Prop := M.1 40 1 = nI tp.1 ∧ tp.1 ≤ 800 ∧ ∀ k, k < tp.1 → M.1 41 k = tp.2 k
theorem Y_tp_dp (tp : Nat × (Nat → Int32)) : r_dp [(0, 8)] [4] (Y_tp tp) := fun M M' h p => ⟨(h 0 8 rfl).1.trans p.1, p.2.1, fun k hk => (h 4 k rfl).1.trans (p.2.2 k hk)⟩
theorem X_tp_dp (tp : Nat × (Nat → Int32)) : r_dp [(40, 1)] [41] (X_tp tp) := fun M M' h p => ⟨(h 40 1 rfl).1.trans p.1, p.2.1, fun k hk => (h 41 k rfl).1.trans (p.2.2 k hk)⟩

theorem c_X12_lay {Q : Rq} {M : Mem} {x : Int32} {tp : Nat × (Nat → Int32)} (hy : Y_tp tp M) (h8 : tp.1 + 4 ≤ 800) (k : ∀ M', r_fx [(0, 8)] [4] M M' → Y_tp (f_lay x tp) M' → Q none GY M') : Ca 0 mt_X12_lay 0 0 [.ref 0, .int x] GY M Q := by
  refine Ca_of rfl (Nat.le_of_ble_eq_true rfl) ?_
  refine Ru_iconst (pc := 0) (nI 3) dX12_lay_0 rfl ?_
  refine Ru_istore_n (pc := 1) dX12_lay_1 rfl rfl (by decide) ?_
  refine Ru_iload_n (pc := 2) dX12_lay_2 rfl rfl ?_
  refine Ru_if_ltN (n := 3) (tgt := 38) (pc := 3) dX12_lay_3 (by omega) ?_ (by decide)
  refine Ru_aload_n (pc := 6) dX12_lay_6 rfl rfl ?_
  refine Ru_getR (pc := 7) 4 dX12_lay_7 fl_X12_24 rfl rfl rfl ?_
  refine Ru_aload_n (pc := 10) dX12_lay_10 rfl rfl ?_
  refine Ru_getI (pc := 11) dX12_lay_11 fl_X12_267 rfl rfl ?_
  refine Ru_top hy.1 ?_
  refine Ru_iload_n (pc := 14) dX12_lay_14 rfl rfl ?_
  refine Ru_bipush (pc := 15) (nI 8) dX12_lay_15 rfl ?_
  refine Ru_iload_n (pc := 17) dX12_lay_17 rfl rfl ?_
  refine Ru_imulN (pc := 18) dX12_lay_18 ?_
  refine Ru_ishr (pc := 19) dX12_lay_19 ?_
  refine Ru_i2b (pc := 20) _ dX12_lay_20 rfl ?_
  refine Ru_bast (pc := 21) rfl dX12_lay_21 rfl (by omega) ?_
  refine Ru_aload_n (pc := 22) dX12_lay_22 rfl rfl ?_
  refine Ru_dup (pc := 23) dX12_lay_23 rfl ?_
  refine Ru_getI (pc := 24) dX12_lay_24 fl_X12_267 rfl rfl ?_
  refine Ru_top ((r_sI_n (by omega)).trans hy.1) ?_
  refine Ru_iconst (pc := 27) (nI 1) dX12_lay_27 rfl ?_
  refine Ru_iaddN (pc := 28) dX12_lay_28 ?_
  refine Ru_putI (pc := 29) rfl dX12_lay_29 fl_X12_267 rfl ?_
  refine Ru_iinc (pc := 32) (nI 2) dX12_lay_32 rfl rfl rfl (by decide) ?_
  refine Ru_goto (pc := 35) 2 dX12_lay_35 (by decide) ?_
  refine Ru_iload_n (pc := 2) dX12_lay_2 rfl rfl ?_
  refine Ru_if_ltN (n := 2) (tgt := 38) (pc := 3) dX12_lay_3 (by omega) ?_ (by decide)
  refine Ru_aload_n (pc := 6) dX12_lay_6 rfl rfl ?_
  refine Ru_getR (pc := 7) 4 dX12_lay_7 fl_X12_24 rfl rfl rfl ?_
  refine Ru_aload_n (pc := 10) dX12_lay_10 rfl rfl ?_
  refine Ru_getI (pc := 11) dX12_lay_11 fl_X12_267 rfl rfl ?_
  refine Ru_top r_sI_s ?_
  refine Ru_iload_n (pc := 14) dX12_lay_14 rfl rfl ?_
  refine Ru_bipush (pc := 15) (nI 8) dX12_lay_15 rfl ?_
  refine Ru_iload_n (pc := 17) dX12_lay_17 rfl rfl ?_
  refine Ru_imulN (pc := 18) dX12_lay_18 ?_
  refine Ru_ishr (pc := 19) dX12_lay_19 ?_
  refine Ru_i2b (pc := 20) _ dX12_lay_20 rfl ?_
  refine Ru_bast (pc := 21) rfl dX12_lay_21 rfl (by omega) ?_
  refine Ru_aload_n (pc := 22) dX12_lay_22 rfl rfl ?_
  refine Ru_dup (pc := 23) dX12_lay_23 rfl ?_
  refine Ru_getI (pc := 24) dX12_lay_24 fl_X12_267 rfl rfl ?_
  refine Ru_top ((r_sI_n (by omega)).trans r_sI_s) ?_
  refine Ru_iconst (pc := 27) (nI 1) dX12_lay_27 rfl ?_
  refine Ru_iaddN (pc := 28) dX12_lay_28 ?_
  refine Ru_putI (pc := 29) rfl dX12_lay_29 fl_X12_267 rfl ?_
  refine Ru_iinc (pc := 32) (nI 1) dX12_lay_32 rfl rfl rfl (by decide) ?_
  refine Ru_goto (pc := 35) 2 dX12_lay_35 (by decide) ?_
  refine Ru_iload_n (pc := 2) dX12_lay_2 rfl rfl ?_
  refine Ru_if_ltN (n := 1) (tgt := 38) (pc := 3) dX12_lay_3 (by omega) ?_ (by decide)
  refine Ru_aload_n (pc := 6) dX12_lay_6 rfl rfl ?_
  refine Ru_getR (pc := 7) 4 dX12_lay_7 fl_X12_24 rfl rfl rfl ?_
  refine Ru_aload_n (pc := 10) dX12_lay_10 rfl rfl ?_
  refine Ru_getI (pc := 11) dX12_lay_11 fl_X12_267 rfl rfl ?_
  refine Ru_top r_sI_s ?_
  refine Ru_iload_n (pc := 14) dX12_lay_14 rfl rfl ?_
  refine Ru_bipush (pc := 15) (nI 8) dX12_lay_15 rfl ?_
  refine Ru_iload_n (pc := 17) dX12_lay_17 rfl rfl ?_
  refine Ru_imulN (pc := 18) dX12_lay_18 ?_
  refine Ru_ishr (pc := 19) dX12_lay_19 ?_
  refine Ru_i2b (pc := 20) _ dX12_lay_20 rfl ?_
  refine Ru_bast (pc := 21) rfl dX12_lay_21 rfl (by omega) ?_
  refine Ru_aload_n (pc := 22) dX12_lay_22 rfl rfl ?_
  refine Ru_dup (pc := 23) dX12_lay_23 rfl ?_
  refine Ru_getI (pc := 24) dX12_lay_24 fl_X12_267 rfl rfl ?_
  refine Ru_top ((r_sI_n (by omega)).trans r_sI_s) ?_
  refine Ru_iconst (pc := 27) (nI 1) dX12_lay_27 rfl ?_
  refine Ru_iaddN (pc := 28) dX12_lay_28 ?_
  refine Ru_putI (pc := 29) rfl dX12_lay_29 fl_X12_267 rfl ?_
  refine Ru_iinc (pc := 32) (nI 0) dX12_lay_32 rfl rfl rfl (by decide) ?_
  refine Ru_goto (pc := 35) 2 dX12_lay_35 (by decide) ?_
  refine Ru_iload_n (pc := 2) dX12_lay_2 rfl rfl ?_
  refine Ru_if_ltN (n := 0) (tgt := 38) (pc := 3) dX12_lay_3 (by omega) ?_ (by decide)
  refine Ru_aload_n (pc := 6) dX12_lay_6 rfl rfl ?_
  refine Ru_getR (pc := 7) 4 dX12_lay_7 fl_X12_24 rfl rfl rfl ?_
  refine Ru_aload_n (pc := 10) dX12_lay_10 rfl rfl ?_
  refine Ru_getI (pc := 11) dX12_lay_11 fl_X12_267 rfl rfl ?_
  refine Ru_top r_sI_s ?_
  refine Ru_iload_n (pc := 14) dX12_lay_14 rfl rfl ?_
  refine Ru_bipush (pc := 15) (nI 8) dX12_lay_15 rfl ?_
  refine Ru_iload_n (pc := 17) dX12_lay_17 rfl rfl ?_
  refine Ru_imulN (pc := 18) dX12_lay_18 ?_
  refine Ru_ishr (pc := 19) dX12_lay_19 ?_
  refine Ru_i2b (pc := 20) _ dX12_lay_20 rfl ?_
  refine Ru_bast (pc := 21) rfl dX12_lay_21 rfl (by omega) ?_
  refine Ru_aload_n (pc := 22) dX12_lay_22 rfl rfl ?_
  refine Ru_dup (pc := 23) dX12_lay_23 rfl ?_
  refine Ru_getI (pc := 24) dX12_lay_24 fl_X12_267 rfl rfl ?_
  refine Ru_top ((r_sI_n (by omega)).trans r_sI_s) ?_
  refine Ru_iconst (pc := 27) (nI 1) dX12_lay_27 rfl ?_
  refine Ru_iaddN (pc := 28) dX12_lay_28 ?_
  refine Ru_putI (pc := 29) rfl dX12_lay_29 fl_X12_267 rfl ?_
  refine Ru_iinc (pc := 32) (-1) dX12_lay_32 rfl rfl rfl (by decide) ?_
  refine Ru_goto (pc := 35) 2 dX12_lay_35 (by decide) ?_
  refine Ru_iload_n (pc := 2) dX12_lay_2 rfl rfl ?_
  refine Ru_if_ltT (pc := 3) 38 dX12_lay_3 (by decide) (fun h5 => ?_) (fun h5 => ?_)
  · refine Ru_vret (pc := 38) dX12_lay_38 rfl ⟨Nat.le_refl _, Nat.le_refl _⟩ ?_
    refine k _ (r_fx.sI rfl (r_fx.sI rfl (r_fx.sI rfl (r_fx.sI rfl (r_fx.sI rfl (r_fx.sI rfl (r_fx.sI rfl (r_fx.sI rfl (r_fx.rf))))))))) ⟨?_, ?_, fun q hq => ?_⟩
    · exact r_sI_s
    · show tp.1 + 4 ≤ 800
      omega
    · have hq2 : q < tp.1 + 4 := hq
      have hc : q = tp.1 ∨ q = tp.1 + 1 ∨ q = tp.1 + 2 ∨ q = tp.1 + 3 ∨ q < tp.1 := by omega
      show _ = (f_lay x tp).2 q
      unfold f_lay
      rcases hc with h | h | h | h | h
      · subst h
        simp [r_sI_g, f_byte, r_nb, show ¬ (tp.1 = tp.1 + 1 + 1 + 1) by omega, show ¬ (tp.1 = tp.1 + 1 + 1) by omega]
      · subst h
        simp [r_sI_g, f_byte, r_nb, show ¬ (tp.1 = tp.1 + 1 + 1 + 1) by omega, show ¬ (tp.1 = tp.1 + 1 + 1) by omega]
      · subst h
        simp [r_sI_g, f_byte, r_nb, show ¬ (tp.1 = tp.1 + 1 + 1 + 1) by omega, show ¬ (tp.1 = tp.1 + 1 + 1) by omega]
      · subst h
        simp [r_sI_g, f_byte, r_nb, show ¬ (tp.1 = tp.1 + 1 + 1 + 1) by omega, show ¬ (tp.1 = tp.1 + 1 + 1) by omega]
      · simp only [r_sI_g]
        rw [if_neg (by omega), if_neg (by omega), if_neg (by omega), if_neg (by omega), if_neg (by omega), if_neg (by omega), if_neg (by omega), if_neg (by omega), if_neg (by omega), if_neg (by omega), if_neg (by omega), if_neg (by omega)]
        exact hy.2.2 q h
  · exact absurd h5 (by decide)

theorem c_X8_tapeFour {Q : Rq} {M : Mem} {x : Int32} {tp : Nat × (Nat → Int32)} (hy : X_tp tp M) (h8 : tp.1 + 4 ≤ 800) (k : ∀ M', r_fx [(40, 1)] [41] M M' → X_tp (f_lay x tp) M' → Q none GX M') : Ca 0 mt_X8_tapeFour 0 0 [.ref 40, .int x] GX M Q := by
  refine Ca_of rfl (Nat.le_of_ble_eq_true rfl) ?_
  refine Ru_bipush (pc := 0) (nI 24) dX8_tapeFour_0 rfl ?_
  refine Ru_istore_n (pc := 2) dX8_tapeFour_2 rfl rfl (by decide) ?_
  refine Ru_iload_n (pc := 3) dX8_tapeFour_3 rfl rfl ?_
  refine Ru_if_ltN (n := 24) (tgt := 48) (pc := 4) dX8_tapeFour_4 (by omega) ?_ (by decide)
  refine Ru_aload_n (pc := 7) dX8_tapeFour_7 rfl rfl ?_
  refine Ru_getI (pc := 8) dX8_tapeFour_8 fl_X8_52 rfl rfl ?_
  refine Ru_top hy.1 ?_
  refine Ru_aload_n (pc := 11) dX8_tapeFour_11 rfl rfl ?_
  refine Ru_getR (pc := 12) 41 dX8_tapeFour_12 fl_X8_9 rfl rfl (rfX_of (o := 40) (j := 1) rfl rfl) ?_
  refine Ru_alen (pc := 15) dX8_tapeFour_15 rfl (by decide) ?_
  refine Ru_icmp_geN (pc := 16) 42 dX8_tapeFour_16 (by decide) (by omega) (fun h2 => ?_) (fun h2 => ?_)
  · exfalso; omega
  · refine Ru_aload_n (pc := 19) dX8_tapeFour_19 rfl rfl ?_
    refine Ru_getR (pc := 20) 41 dX8_tapeFour_20 fl_X8_9 rfl rfl (rfX_of (o := 40) (j := 1) rfl rfl) ?_
    refine Ru_aload_n (pc := 23) dX8_tapeFour_23 rfl rfl ?_
    refine Ru_getI (pc := 24) dX8_tapeFour_24 fl_X8_52 rfl rfl ?_
    refine Ru_top hy.1 ?_
    refine Ru_iload_n (pc := 27) dX8_tapeFour_27 rfl rfl ?_
    refine Ru_iload_n (pc := 28) dX8_tapeFour_28 rfl rfl ?_
    refine Ru_ishr (pc := 29) dX8_tapeFour_29 ?_
    refine Ru_i2b (pc := 30) _ dX8_tapeFour_30 rfl ?_
    refine Ru_bast (pc := 31) rfl dX8_tapeFour_31 rfl (by omega) ?_
    refine Ru_aload_n (pc := 32) dX8_tapeFour_32 rfl rfl ?_
    refine Ru_dup (pc := 33) dX8_tapeFour_33 rfl ?_
    refine Ru_getI (pc := 34) dX8_tapeFour_34 fl_X8_52 rfl rfl ?_
    refine Ru_top ((r_sI_n (by omega)).trans hy.1) ?_
    refine Ru_iconst (pc := 37) (nI 1) dX8_tapeFour_37 rfl ?_
    refine Ru_iaddN (pc := 38) dX8_tapeFour_38 ?_
    refine Ru_putI (pc := 39) rfl dX8_tapeFour_39 fl_X8_52 rfl ?_
    refine Ru_iinc (pc := 42) (nI 16) dX8_tapeFour_42 rfl rfl rfl (by decide) ?_
    refine Ru_goto (pc := 45) 3 dX8_tapeFour_45 (by decide) ?_
    refine Ru_iload_n (pc := 3) dX8_tapeFour_3 rfl rfl ?_
    refine Ru_if_ltN (n := 16) (tgt := 48) (pc := 4) dX8_tapeFour_4 (by omega) ?_ (by decide)
    refine Ru_aload_n (pc := 7) dX8_tapeFour_7 rfl rfl ?_
    refine Ru_getI (pc := 8) dX8_tapeFour_8 fl_X8_52 rfl rfl ?_
    refine Ru_top r_sI_s ?_
    refine Ru_aload_n (pc := 11) dX8_tapeFour_11 rfl rfl ?_
    refine Ru_getR (pc := 12) 41 dX8_tapeFour_12 fl_X8_9 rfl rfl (rfX_of (o := 40) (j := 1) rfl rfl) ?_
    refine Ru_alen (pc := 15) dX8_tapeFour_15 rfl (by decide) ?_
    refine Ru_icmp_geN (pc := 16) 42 dX8_tapeFour_16 (by decide) (by omega) (fun h4 => ?_) (fun h4 => ?_)
    · exfalso; omega
    · refine Ru_aload_n (pc := 19) dX8_tapeFour_19 rfl rfl ?_
      refine Ru_getR (pc := 20) 41 dX8_tapeFour_20 fl_X8_9 rfl rfl (rfX_of (o := 40) (j := 1) rfl rfl) ?_
      refine Ru_aload_n (pc := 23) dX8_tapeFour_23 rfl rfl ?_
      refine Ru_getI (pc := 24) dX8_tapeFour_24 fl_X8_52 rfl rfl ?_
      refine Ru_top r_sI_s ?_
      refine Ru_iload_n (pc := 27) dX8_tapeFour_27 rfl rfl ?_
      refine Ru_iload_n (pc := 28) dX8_tapeFour_28 rfl rfl ?_
      refine Ru_ishr (pc := 29) dX8_tapeFour_29 ?_
      refine Ru_i2b (pc := 30) _ dX8_tapeFour_30 rfl ?_
      refine Ru_bast (pc := 31) rfl dX8_tapeFour_31 rfl (by omega) ?_
      refine Ru_aload_n (pc := 32) dX8_tapeFour_32 rfl rfl ?_
      refine Ru_dup (pc := 33) dX8_tapeFour_33 rfl ?_
      refine Ru_getI (pc := 34) dX8_tapeFour_34 fl_X8_52 rfl rfl ?_
      refine Ru_top ((r_sI_n (by omega)).trans r_sI_s) ?_
      refine Ru_iconst (pc := 37) (nI 1) dX8_tapeFour_37 rfl ?_
      refine Ru_iaddN (pc := 38) dX8_tapeFour_38 ?_
      refine Ru_putI (pc := 39) rfl dX8_tapeFour_39 fl_X8_52 rfl ?_
      refine Ru_iinc (pc := 42) (nI 8) dX8_tapeFour_42 rfl rfl rfl (by decide) ?_
      refine Ru_goto (pc := 45) 3 dX8_tapeFour_45 (by decide) ?_
      refine Ru_iload_n (pc := 3) dX8_tapeFour_3 rfl rfl ?_
      refine Ru_if_ltN (n := 8) (tgt := 48) (pc := 4) dX8_tapeFour_4 (by omega) ?_ (by decide)
      refine Ru_aload_n (pc := 7) dX8_tapeFour_7 rfl rfl ?_
      refine Ru_getI (pc := 8) dX8_tapeFour_8 fl_X8_52 rfl rfl ?_
      refine Ru_top r_sI_s ?_
      refine Ru_aload_n (pc := 11) dX8_tapeFour_11 rfl rfl ?_
      refine Ru_getR (pc := 12) 41 dX8_tapeFour_12 fl_X8_9 rfl rfl (rfX_of (o := 40) (j := 1) rfl rfl) ?_
      refine Ru_alen (pc := 15) dX8_tapeFour_15 rfl (by decide) ?_
      refine Ru_icmp_geN (pc := 16) 42 dX8_tapeFour_16 (by decide) (by omega) (fun h6 => ?_) (fun h6 => ?_)
      · exfalso; omega
      · refine Ru_aload_n (pc := 19) dX8_tapeFour_19 rfl rfl ?_
        refine Ru_getR (pc := 20) 41 dX8_tapeFour_20 fl_X8_9 rfl rfl (rfX_of (o := 40) (j := 1) rfl rfl) ?_
        refine Ru_aload_n (pc := 23) dX8_tapeFour_23 rfl rfl ?_
        refine Ru_getI (pc := 24) dX8_tapeFour_24 fl_X8_52 rfl rfl ?_
        refine Ru_top r_sI_s ?_
        refine Ru_iload_n (pc := 27) dX8_tapeFour_27 rfl rfl ?_
        refine Ru_iload_n (pc := 28) dX8_tapeFour_28 rfl rfl ?_
        refine Ru_ishr (pc := 29) dX8_tapeFour_29 ?_
        refine Ru_i2b (pc := 30) _ dX8_tapeFour_30 rfl ?_
        refine Ru_bast (pc := 31) rfl dX8_tapeFour_31 rfl (by omega) ?_
        refine Ru_aload_n (pc := 32) dX8_tapeFour_32 rfl rfl ?_
        refine Ru_dup (pc := 33) dX8_tapeFour_33 rfl ?_
        refine Ru_getI (pc := 34) dX8_tapeFour_34 fl_X8_52 rfl rfl ?_
        refine Ru_top ((r_sI_n (by omega)).trans r_sI_s) ?_
        refine Ru_iconst (pc := 37) (nI 1) dX8_tapeFour_37 rfl ?_
        refine Ru_iaddN (pc := 38) dX8_tapeFour_38 ?_
        refine Ru_putI (pc := 39) rfl dX8_tapeFour_39 fl_X8_52 rfl ?_
        refine Ru_iinc (pc := 42) (nI 0) dX8_tapeFour_42 rfl rfl rfl (by decide) ?_
        refine Ru_goto (pc := 45) 3 dX8_tapeFour_45 (by decide) ?_
        refine Ru_iload_n (pc := 3) dX8_tapeFour_3 rfl rfl ?_
        refine Ru_if_ltN (n := 0) (tgt := 48) (pc := 4) dX8_tapeFour_4 (by omega) ?_ (by decide)
        refine Ru_aload_n (pc := 7) dX8_tapeFour_7 rfl rfl ?_
        refine Ru_getI (pc := 8) dX8_tapeFour_8 fl_X8_52 rfl rfl ?_
        refine Ru_top r_sI_s ?_
        refine Ru_aload_n (pc := 11) dX8_tapeFour_11 rfl rfl ?_
        refine Ru_getR (pc := 12) 41 dX8_tapeFour_12 fl_X8_9 rfl rfl (rfX_of (o := 40) (j := 1) rfl rfl) ?_
        refine Ru_alen (pc := 15) dX8_tapeFour_15 rfl (by decide) ?_
        refine Ru_icmp_geN (pc := 16) 42 dX8_tapeFour_16 (by decide) (by omega) (fun h8 => ?_) (fun h8 => ?_)
        · exfalso; omega
        · refine Ru_aload_n (pc := 19) dX8_tapeFour_19 rfl rfl ?_
          refine Ru_getR (pc := 20) 41 dX8_tapeFour_20 fl_X8_9 rfl rfl (rfX_of (o := 40) (j := 1) rfl rfl) ?_
          refine Ru_aload_n (pc := 23) dX8_tapeFour_23 rfl rfl ?_
          refine Ru_getI (pc := 24) dX8_tapeFour_24 fl_X8_52 rfl rfl ?_
          refine Ru_top r_sI_s ?_
          refine Ru_iload_n (pc := 27) dX8_tapeFour_27 rfl rfl ?_
          refine Ru_iload_n (pc := 28) dX8_tapeFour_28 rfl rfl ?_
          refine Ru_ishr (pc := 29) dX8_tapeFour_29 ?_
          refine Ru_i2b (pc := 30) _ dX8_tapeFour_30 rfl ?_
          refine Ru_bast (pc := 31) rfl dX8_tapeFour_31 rfl (by omega) ?_
          refine Ru_aload_n (pc := 32) dX8_tapeFour_32 rfl rfl ?_
          refine Ru_dup (pc := 33) dX8_tapeFour_33 rfl ?_
          refine Ru_getI (pc := 34) dX8_tapeFour_34 fl_X8_52 rfl rfl ?_
          refine Ru_top ((r_sI_n (by omega)).trans r_sI_s) ?_
          refine Ru_iconst (pc := 37) (nI 1) dX8_tapeFour_37 rfl ?_
          refine Ru_iaddN (pc := 38) dX8_tapeFour_38 ?_
          refine Ru_putI (pc := 39) rfl dX8_tapeFour_39 fl_X8_52 rfl ?_
          refine Ru_iinc (pc := 42) (-8) dX8_tapeFour_42 rfl rfl rfl (by decide) ?_
          refine Ru_goto (pc := 45) 3 dX8_tapeFour_45 (by decide) ?_
          refine Ru_iload_n (pc := 3) dX8_tapeFour_3 rfl rfl ?_
          refine Ru_if_ltT (pc := 4) 48 dX8_tapeFour_4 (by decide) (fun h9 => ?_) (fun h9 => ?_)
          · refine Ru_vret (pc := 48) dX8_tapeFour_48 rfl ⟨Nat.le_refl _, Nat.le_refl _⟩ ?_
            refine k _ (r_fx.sI rfl (r_fx.sI rfl (r_fx.sI rfl (r_fx.sI rfl (r_fx.sI rfl (r_fx.sI rfl (r_fx.sI rfl (r_fx.sI rfl (r_fx.rf))))))))) ⟨?_, ?_, fun q hq => ?_⟩
            · exact r_sI_s
            · show tp.1 + 4 ≤ 800
              omega
            · have hq2 : q < tp.1 + 4 := hq
              have hc : q = tp.1 ∨ q = tp.1 + 1 ∨ q = tp.1 + 2 ∨ q = tp.1 + 3 ∨ q < tp.1 := by omega
              show _ = (f_lay x tp).2 q
              unfold f_lay
              rcases hc with h | h | h | h | h
              · subst h
                simp [r_sI_g, f_byte, r_nb, show ¬ (tp.1 = tp.1 + 1 + 1 + 1) by omega, show ¬ (tp.1 = tp.1 + 1 + 1) by omega]
              · subst h
                simp [r_sI_g, f_byte, r_nb, show ¬ (tp.1 = tp.1 + 1 + 1 + 1) by omega, show ¬ (tp.1 = tp.1 + 1 + 1) by omega]
              · subst h
                simp [r_sI_g, f_byte, r_nb, show ¬ (tp.1 = tp.1 + 1 + 1 + 1) by omega, show ¬ (tp.1 = tp.1 + 1 + 1) by omega]
              · subst h
                simp [r_sI_g, f_byte, r_nb, show ¬ (tp.1 = tp.1 + 1 + 1 + 1) by omega, show ¬ (tp.1 = tp.1 + 1 + 1) by omega]
              · simp only [r_sI_g]
                rw [if_neg (by omega), if_neg (by omega), if_neg (by omega), if_neg (by omega), if_neg (by omega), if_neg (by omega), if_neg (by omega), if_neg (by omega), if_neg (by omega), if_neg (by omega), if_neg (by omega), if_neg (by omega)]
                exact hy.2.2 q h
          · exact absurd h9 (by decide)

theorem c_X12_feed {Q : Rq} {M : Mem} {p q r s t : Int32} {tp : Nat × (Nat → Int32)} (hy : Y_tp tp M) (k : ∀ M', r_fx [(0, 1), (0, 8)] [4] M M' → Y_tp (f_feed p q r s t tp).2 M' → Q (some (.int (f_feed p q r s t tp).1)) GY M') : Ca 1 mt_X12_feed 0 0 [.ref 0, .int p, .int q, .int r, .int s, .int t] GY M Q := by
  refine Ca_of rfl (Nat.le_of_ble_eq_true rfl) ?_
  have hb := hy.2.1
  have hy1 : Y_tp tp (r_sI M 0 1 (nI 0)) := (Y_tp_dp tp).kp (F := [(0, 1)]) (A := []) (r_fx.sI rfl r_fx.rf) rfl hy
  refine Ru_aload_n (pc := 0) dX12_feed_0 rfl rfl ?_
  refine Ru_iconst (pc := 1) (nI 0) dX12_feed_1 rfl ?_
  refine Ru_putI (pc := 2) rfl dX12_feed_2 fl_X12_87 rfl ?_
  refine Ru_aload_n (pc := 5) dX12_feed_5 rfl rfl ?_
  refine Ru_getI (pc := 6) dX12_feed_6 fl_X12_267 rfl rfl ?_
  refine Ru_top ((r_sI_n (by decide)).trans hy.1) ?_
  refine Ru_bipush (pc := 9) (nI 20) dX12_feed_9 rfl ?_
  refine Ru_iaddN (pc := 11) dX12_feed_11 ?_
  refine Ru_sipush (pc := 12) (nI 800) dX12_feed_12 rfl ?_
  refine Ru_icmp_leN (pc := 15) 20 dX12_feed_15 (by decide) (by omega) (fun h1 => ?_) (fun h1 => ?_)
  · refine Ru_aload_n (pc := 20) dX12_feed_20 rfl rfl ?_
    refine Ru_iload_n (pc := 21) dX12_feed_21 rfl rfl ?_
    refine Ru_cv1 (pc := 22) dX12_feed_22 mv_X12_270 rfl (by decide) (Nat.le_of_ble_eq_true rfl) (c_X12_lay hy1 (by omega) (fun M1 f1 y1 => ?_)) 
    refine Ru_aload_n (pc := 25) dX12_feed_25 rfl rfl ?_
    refine Ru_iload_n (pc := 26) dX12_feed_26 rfl rfl ?_
    refine Ru_cv1 (pc := 27) dX12_feed_27 mv_X12_270 rfl (by decide) (Nat.le_of_ble_eq_true rfl) (c_X12_lay y1 (by show _ + 4 ≤ 800; simp only [f_lay]; omega) (fun M2 f2 y2 => ?_)) 
    refine Ru_aload_n (pc := 30) dX12_feed_30 rfl rfl ?_
    refine Ru_iload_n (pc := 31) dX12_feed_31 rfl rfl ?_
    refine Ru_cv1 (pc := 32) dX12_feed_32 mv_X12_270 rfl (by decide) (Nat.le_of_ble_eq_true rfl) (c_X12_lay y2 (by show _ + 4 ≤ 800; simp only [f_lay]; omega) (fun M3 f3 y3 => ?_)) 
    refine Ru_aload_n (pc := 35) dX12_feed_35 rfl rfl ?_
    refine Ru_iload (pc := 36) dX12_feed_36 rfl ?_
    refine Ru_cv1 (pc := 38) dX12_feed_38 mv_X12_270 rfl (by decide) (Nat.le_of_ble_eq_true rfl) (c_X12_lay y3 (by show _ + 4 ≤ 800; simp only [f_lay]; omega) (fun M4 f4 y4 => ?_)) 
    refine Ru_aload_n (pc := 41) dX12_feed_41 rfl rfl ?_
    refine Ru_iload (pc := 42) dX12_feed_42 rfl ?_
    refine Ru_cv1 (pc := 44) dX12_feed_44 mv_X12_270 rfl (by decide) (Nat.le_of_ble_eq_true rfl) (c_X12_lay y4 (by show _ + 4 ≤ 800; simp only [f_lay]; omega) (fun M5 f5 y5 => ?_)) 
    refine Ru_aload_n (pc := 47) dX12_feed_47 rfl rfl ?_
    refine Ru_getI (pc := 48) dX12_feed_48 fl_X12_267 rfl rfl ?_
    refine Ru_top y5.1 ?_
    refine Ru_iret (pc := 51) dX12_feed_51 rfl ⟨Nat.le_refl _, Nat.le_refl _⟩ ?_
    have e : f_feed p q r s t tp = (nI (tp.1 + 20), f_lay t (f_lay s (f_lay r (f_lay q (f_lay p tp))))) := by
      unfold f_feed
      rw [if_neg (by omega)]
    rw [e] at k
    exact k _ ((r_fx.sI rfl r_fx.rf).tr ((((f1.tr f2).tr f3).tr f4).tr f5 |>.mono rfl)) y5
  · refine Ru_iconst (pc := 18) (-1) dX12_feed_18 rfl ?_
    refine Ru_iret (pc := 19) dX12_feed_19 rfl ⟨Nat.le_refl _, Nat.le_refl _⟩ ?_
    have e : f_feed p q r s t tp = (-1, tp) := by
      unfold f_feed
      rw [if_pos (by omega)]
    rw [e] at k
    exact k _ (r_fx.sI rfl r_fx.rf) hy1

theorem c_X11_feed {Q : Rq} {M : Mem} {p q r s t : Int32} {tp : Nat × (Nat → Int32)} (hy : X_tp tp M) (k : ∀ M', r_fx [(40, 1)] [41] M M' → X_tp (f_feed p q r s t tp).2 M' → Q (some (.int (f_feed p q r s t tp).1)) GX M') : Ca 1 mt_X11_feed 0 0 [.ref 0, .int p, .int q, .int r, .int s, .int t] GX M Q := by
  refine Ca_of rfl (Nat.le_of_ble_eq_true rfl) ?_
  have hb := hy.2.1
  have hy1 := hy
  refine Ru_aload_n (pc := 0) dX11_feed_0 rfl rfl ?_
  refine Ru_getR (pc := 1) 40 dX11_feed_1 fl_X11_47 rfl rfl (rfX_of (o := 0) (j := 40) rfl rfl) ?_
  refine Ru_getI (pc := 4) dX11_feed_4 fl_X11_137 rfl rfl ?_
  refine Ru_top hy.1 ?_
  refine Ru_sipush (pc := 7) (nI 780) dX11_feed_7 rfl ?_
  refine Ru_icmp_leN (pc := 10) 15 dX11_feed_10 (by decide) (by omega) (fun h1 => ?_) (fun h1 => ?_)
  · refine Ru_aload_n (pc := 15) dX11_feed_15 rfl rfl ?_
    refine Ru_getR (pc := 16) 40 dX11_feed_16 fl_X11_47 rfl rfl (rfX_of (o := 0) (j := 40) rfl rfl) ?_
    refine Ru_iload_n (pc := 19) dX11_feed_19 rfl rfl ?_
    refine Ru_cv1 (pc := 20) dX11_feed_20 mv_X11_140 rfl (by decide) (Nat.le_of_ble_eq_true rfl) (c_X8_tapeFour hy1 (by omega) (fun M1 f1 y1 => ?_)) 
    refine Ru_aload_n (pc := 23) dX11_feed_23 rfl rfl ?_
    refine Ru_getR (pc := 24) 40 dX11_feed_24 fl_X11_47 rfl rfl (rfX_of (o := 0) (j := 40) rfl rfl) ?_
    refine Ru_iload_n (pc := 27) dX11_feed_27 rfl rfl ?_
    refine Ru_cv1 (pc := 28) dX11_feed_28 mv_X11_140 rfl (by decide) (Nat.le_of_ble_eq_true rfl) (c_X8_tapeFour y1 (by show _ + 4 ≤ 800; simp only [f_lay]; omega) (fun M2 f2 y2 => ?_)) 
    refine Ru_aload_n (pc := 31) dX11_feed_31 rfl rfl ?_
    refine Ru_getR (pc := 32) 40 dX11_feed_32 fl_X11_47 rfl rfl (rfX_of (o := 0) (j := 40) rfl rfl) ?_
    refine Ru_iload_n (pc := 35) dX11_feed_35 rfl rfl ?_
    refine Ru_cv1 (pc := 36) dX11_feed_36 mv_X11_140 rfl (by decide) (Nat.le_of_ble_eq_true rfl) (c_X8_tapeFour y2 (by show _ + 4 ≤ 800; simp only [f_lay]; omega) (fun M3 f3 y3 => ?_)) 
    refine Ru_aload_n (pc := 39) dX11_feed_39 rfl rfl ?_
    refine Ru_getR (pc := 40) 40 dX11_feed_40 fl_X11_47 rfl rfl (rfX_of (o := 0) (j := 40) rfl rfl) ?_
    refine Ru_iload (pc := 43) dX11_feed_43 rfl ?_
    refine Ru_cv1 (pc := 45) dX11_feed_45 mv_X11_140 rfl (by decide) (Nat.le_of_ble_eq_true rfl) (c_X8_tapeFour y3 (by show _ + 4 ≤ 800; simp only [f_lay]; omega) (fun M4 f4 y4 => ?_)) 
    refine Ru_aload_n (pc := 48) dX11_feed_48 rfl rfl ?_
    refine Ru_getR (pc := 49) 40 dX11_feed_49 fl_X11_47 rfl rfl (rfX_of (o := 0) (j := 40) rfl rfl) ?_
    refine Ru_iload (pc := 52) dX11_feed_52 rfl ?_
    refine Ru_cv1 (pc := 54) dX11_feed_54 mv_X11_140 rfl (by decide) (Nat.le_of_ble_eq_true rfl) (c_X8_tapeFour y4 (by show _ + 4 ≤ 800; simp only [f_lay]; omega) (fun M5 f5 y5 => ?_)) 
    refine Ru_aload_n (pc := 57) dX11_feed_57 rfl rfl ?_
    refine Ru_getR (pc := 58) 40 dX11_feed_58 fl_X11_47 rfl rfl (rfX_of (o := 0) (j := 40) rfl rfl) ?_
    refine Ru_getI (pc := 61) dX11_feed_61 fl_X11_137 rfl rfl ?_
    refine Ru_top y5.1 ?_
    refine Ru_iret (pc := 64) dX11_feed_64 rfl ⟨Nat.le_refl _, Nat.le_refl _⟩ ?_
    have e : f_feed p q r s t tp = (nI (tp.1 + 20), f_lay t (f_lay s (f_lay r (f_lay q (f_lay p tp))))) := by
      unfold f_feed
      rw [if_neg (by omega)]
    rw [e] at k
    exact k _ ((((f1.tr f2).tr f3).tr f4).tr f5) y5
  · refine Ru_iconst (pc := 13) (-1) dX11_feed_13 rfl ?_
    refine Ru_iret (pc := 14) dX11_feed_14 rfl ⟨Nat.le_refl _, Nat.le_refl _⟩ ?_
    have e : f_feed p q r s t tp = (-1, tp) := by
      unfold f_feed
      rw [if_pos (by omega)]
    rw [e] at k
    exact k _ r_fx.rf hy
