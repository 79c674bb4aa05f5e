-- NIGHT: the developers' own

theorem c_X4_chosen {Q : Rq} {M : Mem} {d : Td} {s r w h v x left : Nat} (hd0 : d 0 ≤ 8) (h47 : ∀ k, k < d 0 → M.1 47 k = nI (nS d s r k)) (hth : M.1 46 0 = nI (d 0)) (hcd : w ≤ d 0 ∧ h ≤ d 0 ∧ v ≤ d 0) (hx8 : x ≤ d 0) (k : Q (some (.int (nI (nCh d s r x w h v left)))) GX M) : Ca 0 mt_X4_chosen 0 0 [.ref 46, .int (nI left), .int (nM x), .int (nM w), .int (nM h), .int (nM v)] GX M Q := by
  refine Ca_of rfl (Nat.le_of_ble_eq_true rfl) ?_
  have zw := nM_t (show w < 2147483648 by omega)
  have zh := nM_t (show h < 2147483648 by omega)
  have zv := nM_t (show v < 2147483648 by omega)
  have zx := nM_t (show x < 2147483648 by omega)
  refine Ru_iload_n (pc := 0) dX4_chosen_0 rfl rfl ?_
  refine Ru_if_ltT (pc := 1) 12 dX4_chosen_1 (by decide) (fun h1 => ?_) (fun h1 => ?_)
  · refine Ru_iload_n (pc := 12) dX4_chosen_12 rfl rfl ?_
    refine Ru_iret (pc := 13) dX4_chosen_13 rfl ⟨Nat.le_refl _, Nat.le_refl _⟩ ?_
    have e : nCh d s r x w h v left = left := by
      unfold nCh
      rw [if_pos (by omega)]
    rw [e] at k
    exact k
  · obtain ⟨q, hq⟩ : ∃ q, x = q + 1 := ⟨x - 1, by omega⟩
    subst hq
    refine Ru_weak (L' := [(0, some (.ref 46)), (1, some (.int (nI left))), (2, some (.int (nI q))), (3, some (.int (nM w))), (4, some (.int (nM h))), (5, some (.int (nM v)))]) ?_ rfl
    have hSl := nS_lt d s r q
    refine Ru_iload_n (pc := 4) dX4_chosen_4 rfl rfl ?_
    refine Ru_aload_n (pc := 5) dX4_chosen_5 rfl rfl ?_
    refine Ru_getI (pc := 6) dX4_chosen_6 fl_X4_42 rfl rfl ?_
    refine Ru_top hth ?_
    refine Ru_icmp_ltN (pc := 9) 14 dX4_chosen_9 (by decide) (by omega) (fun h2 => ?_) (fun h2 => ?_)
    · refine Ru_iload_n (pc := 14) dX4_chosen_14 rfl rfl ?_
      refine Ru_iload_n (pc := 15) dX4_chosen_15 rfl rfl ?_
      refine Ru_icmp_neR (pc := 16) 23 dX4_chosen_16 (by decide) (by omega) (fun h3 => ?_) (fun h3 => ?_)
      · refine Ru_iconst (pc := 23) (nI 0) dX4_chosen_23 rfl ?_
        refine Ru_istore (pc := 24) dX4_chosen_24 rfl (by decide) ?_
        refine Ru_iload (pc := 26) dX4_chosen_26 rfl ?_
        refine Ru_iload_n (pc := 28) dX4_chosen_28 rfl rfl ?_
        refine Ru_iload (pc := 29) dX4_chosen_29 rfl ?_
        refine Ru_icmp_neR (pc := 31) 38 dX4_chosen_31 (by decide) (by omega) (fun h4 => ?_) (fun h4 => ?_)
        · refine Ru_iconst (pc := 38) (nI 0) dX4_chosen_38 rfl ?_
          refine Ru_iorN (pc := 39) dX4_chosen_39 ?_
          refine Ru_istore (pc := 40) dX4_chosen_40 rfl (by decide) ?_
          refine Ru_iload (pc := 42) dX4_chosen_42 rfl ?_
          refine Ru_iload_n (pc := 44) dX4_chosen_44 rfl rfl ?_
          refine Ru_iload (pc := 45) dX4_chosen_45 rfl ?_
          refine Ru_icmp_neR (pc := 47) 54 dX4_chosen_47 (by decide) (by omega) (fun h5 => ?_) (fun h5 => ?_)
          · refine Ru_iconst (pc := 54) (nI 0) dX4_chosen_54 rfl ?_
            refine Ru_iorN (pc := 55) dX4_chosen_55 ?_
            refine Ru_istore (pc := 56) dX4_chosen_56 rfl (by decide) ?_
            have hwy : nWy q w h v = ((0 ||| 0) ||| 0) := by
              unfold nWy
              rw [if_neg (by omega), if_neg (by omega), if_neg (by omega)]
              rfl
            rw [← hwy]
            have hwl8 := nWy_lt q w h v
            refine Ru_aload_n (pc := 58) dX4_chosen_58 rfl rfl ?_
            refine Ru_getR (pc := 59) 47 dX4_chosen_59 fl_X4_9 rfl rfl (rfX_of (o := 46) (j := 1) rfl rfl) ?_
            refine Ru_iload_n (pc := 62) dX4_chosen_62 rfl rfl ?_
            refine Ru_iald (pc := 63) dX4_chosen_63 rfl (by omega) ?_
            refine Ru_top (h47 q (by omega)) ?_
            refine Ru_iload (pc := 64) dX4_chosen_64 rfl ?_
            refine Ru_ishrN (pc := 66) dX4_chosen_66 (by omega) ?_
            refine Ru_iconst (pc := 67) (nI 1) dX4_chosen_67 rfl ?_
            refine Ru_iandN (pc := 68) dX4_chosen_68 ?_
            refine Ru_if_eqN (pc := 69) 80 dX4_chosen_69 (by decide) (Nat.lt_of_le_of_lt Nat.and_le_right (by decide)) (fun h6 => ?_) (fun h6 => ?_)
            · have h6b := r_b1_f h6
              refine Ru_iload_n (pc := 80) dX4_chosen_80 rfl rfl ?_
              refine Ru_iconst (pc := 81) (nI 1) dX4_chosen_81 rfl ?_
              refine Ru_iload_n (pc := 82) dX4_chosen_82 rfl rfl ?_
              refine Ru_ishl1N (pc := 83) dX4_chosen_83 (by omega) ?_
              refine Ru_iconst (pc := 84) (-1) dX4_chosen_84 rfl ?_
              refine Ru_ixor (pc := 85) dX4_chosen_85 ?_
              refine Ru_idifN (pc := 86) dX4_chosen_86 ?_
              refine Ru_iret (pc := 87) dX4_chosen_87 rfl ⟨Nat.le_refl _, Nat.le_refl _⟩ ?_
              have e : nCh d s r (q + 1) w h v left = (r_dif left (2 ^ q)) := by
                unfold nCh
                rw [if_neg (by omega), Nat.add_sub_cancel, if_neg (by simp_all)]
              rw [e] at k
              exact k
            · have h6b := r_b1_t h6
              refine Ru_iload_n (pc := 72) dX4_chosen_72 rfl rfl ?_
              refine Ru_iconst (pc := 73) (nI 1) dX4_chosen_73 rfl ?_
              refine Ru_iload_n (pc := 74) dX4_chosen_74 rfl rfl ?_
              refine Ru_ishl1N (pc := 75) dX4_chosen_75 (by omega) ?_
              refine Ru_iorN (pc := 76) dX4_chosen_76 ?_
              refine Ru_goto (pc := 77) 87 dX4_chosen_77 (by decide) ?_
              refine Ru_iret (pc := 87) dX4_chosen_87 rfl ⟨Nat.le_refl _, Nat.le_refl _⟩ ?_
              have e : nCh d s r (q + 1) w h v left = (left ||| (2 ^ q)) := by
                unfold nCh
                rw [if_neg (by omega), Nat.add_sub_cancel, if_pos (by assumption)]
              rw [e] at k
              exact k
          · refine Ru_iconst (pc := 50) (nI 4) dX4_chosen_50 rfl ?_
            refine Ru_goto (pc := 51) 55 dX4_chosen_51 (by decide) ?_
            refine Ru_iorN (pc := 55) dX4_chosen_55 ?_
            refine Ru_istore (pc := 56) dX4_chosen_56 rfl (by decide) ?_
            have hwy : nWy q w h v = ((0 ||| 0) ||| 4) := by
              unfold nWy
              rw [if_neg (by omega), if_neg (by omega), if_pos (by omega)]
              rfl
            rw [← hwy]
            have hwl8 := nWy_lt q w h v
            refine Ru_aload_n (pc := 58) dX4_chosen_58 rfl rfl ?_
            refine Ru_getR (pc := 59) 47 dX4_chosen_59 fl_X4_9 rfl rfl (rfX_of (o := 46) (j := 1) rfl rfl) ?_
            refine Ru_iload_n (pc := 62) dX4_chosen_62 rfl rfl ?_
            refine Ru_iald (pc := 63) dX4_chosen_63 rfl (by omega) ?_
            refine Ru_top (h47 q (by omega)) ?_
            refine Ru_iload (pc := 64) dX4_chosen_64 rfl ?_
            refine Ru_ishrN (pc := 66) dX4_chosen_66 (by omega) ?_
            refine Ru_iconst (pc := 67) (nI 1) dX4_chosen_67 rfl ?_
            refine Ru_iandN (pc := 68) dX4_chosen_68 ?_
            refine Ru_if_eqN (pc := 69) 80 dX4_chosen_69 (by decide) (Nat.lt_of_le_of_lt Nat.and_le_right (by decide)) (fun h7 => ?_) (fun h7 => ?_)
            · have h7b := r_b1_f h7
              refine Ru_iload_n (pc := 80) dX4_chosen_80 rfl rfl ?_
              refine Ru_iconst (pc := 81) (nI 1) dX4_chosen_81 rfl ?_
              refine Ru_iload_n (pc := 82) dX4_chosen_82 rfl rfl ?_
              refine Ru_ishl1N (pc := 83) dX4_chosen_83 (by omega) ?_
              refine Ru_iconst (pc := 84) (-1) dX4_chosen_84 rfl ?_
              refine Ru_ixor (pc := 85) dX4_chosen_85 ?_
              refine Ru_idifN (pc := 86) dX4_chosen_86 ?_
              refine Ru_iret (pc := 87) dX4_chosen_87 rfl ⟨Nat.le_refl _, Nat.le_refl _⟩ ?_
              have e : nCh d s r (q + 1) w h v left = (r_dif left (2 ^ q)) := by
                unfold nCh
                rw [if_neg (by omega), Nat.add_sub_cancel, if_neg (by simp_all)]
              rw [e] at k
              exact k
            · have h7b := r_b1_t h7
              refine Ru_iload_n (pc := 72) dX4_chosen_72 rfl rfl ?_
              refine Ru_iconst (pc := 73) (nI 1) dX4_chosen_73 rfl ?_
              refine Ru_iload_n (pc := 74) dX4_chosen_74 rfl rfl ?_
              refine Ru_ishl1N (pc := 75) dX4_chosen_75 (by omega) ?_
              refine Ru_iorN (pc := 76) dX4_chosen_76 ?_
              refine Ru_goto (pc := 77) 87 dX4_chosen_77 (by decide) ?_
              refine Ru_iret (pc := 87) dX4_chosen_87 rfl ⟨Nat.le_refl _, Nat.le_refl _⟩ ?_
              have e : nCh d s r (q + 1) w h v left = (left ||| (2 ^ q)) := by
                unfold nCh
                rw [if_neg (by omega), Nat.add_sub_cancel, if_pos (by assumption)]
              rw [e] at k
              exact k
        · refine Ru_iconst (pc := 34) (nI 2) dX4_chosen_34 rfl ?_
          refine Ru_goto (pc := 35) 39 dX4_chosen_35 (by decide) ?_
          refine Ru_iorN (pc := 39) dX4_chosen_39 ?_
          refine Ru_istore (pc := 40) dX4_chosen_40 rfl (by decide) ?_
          refine Ru_iload (pc := 42) dX4_chosen_42 rfl ?_
          refine Ru_iload_n (pc := 44) dX4_chosen_44 rfl rfl ?_
          refine Ru_iload (pc := 45) dX4_chosen_45 rfl ?_
          refine Ru_icmp_neR (pc := 47) 54 dX4_chosen_47 (by decide) (by omega) (fun h8 => ?_) (fun h8 => ?_)
          · refine Ru_iconst (pc := 54) (nI 0) dX4_chosen_54 rfl ?_
            refine Ru_iorN (pc := 55) dX4_chosen_55 ?_
            refine Ru_istore (pc := 56) dX4_chosen_56 rfl (by decide) ?_
            have hwy : nWy q w h v = ((0 ||| 2) ||| 0) := by
              unfold nWy
              rw [if_neg (by omega), if_pos (by omega), if_neg (by omega)]
              rfl
            rw [← hwy]
            have hwl8 := nWy_lt q w h v
            refine Ru_aload_n (pc := 58) dX4_chosen_58 rfl rfl ?_
            refine Ru_getR (pc := 59) 47 dX4_chosen_59 fl_X4_9 rfl rfl (rfX_of (o := 46) (j := 1) rfl rfl) ?_
            refine Ru_iload_n (pc := 62) dX4_chosen_62 rfl rfl ?_
            refine Ru_iald (pc := 63) dX4_chosen_63 rfl (by omega) ?_
            refine Ru_top (h47 q (by omega)) ?_
            refine Ru_iload (pc := 64) dX4_chosen_64 rfl ?_
            refine Ru_ishrN (pc := 66) dX4_chosen_66 (by omega) ?_
            refine Ru_iconst (pc := 67) (nI 1) dX4_chosen_67 rfl ?_
            refine Ru_iandN (pc := 68) dX4_chosen_68 ?_
            refine Ru_if_eqN (pc := 69) 80 dX4_chosen_69 (by decide) (Nat.lt_of_le_of_lt Nat.and_le_right (by decide)) (fun h9 => ?_) (fun h9 => ?_)
            · have h9b := r_b1_f h9
              refine Ru_iload_n (pc := 80) dX4_chosen_80 rfl rfl ?_
              refine Ru_iconst (pc := 81) (nI 1) dX4_chosen_81 rfl ?_
              refine Ru_iload_n (pc := 82) dX4_chosen_82 rfl rfl ?_
              refine Ru_ishl1N (pc := 83) dX4_chosen_83 (by omega) ?_
              refine Ru_iconst (pc := 84) (-1) dX4_chosen_84 rfl ?_
              refine Ru_ixor (pc := 85) dX4_chosen_85 ?_
              refine Ru_idifN (pc := 86) dX4_chosen_86 ?_
              refine Ru_iret (pc := 87) dX4_chosen_87 rfl ⟨Nat.le_refl _, Nat.le_refl _⟩ ?_
              have e : nCh d s r (q + 1) w h v left = (r_dif left (2 ^ q)) := by
                unfold nCh
                rw [if_neg (by omega), Nat.add_sub_cancel, if_neg (by simp_all)]
              rw [e] at k
              exact k
            · have h9b := r_b1_t h9
              refine Ru_iload_n (pc := 72) dX4_chosen_72 rfl rfl ?_
              refine Ru_iconst (pc := 73) (nI 1) dX4_chosen_73 rfl ?_
              refine Ru_iload_n (pc := 74) dX4_chosen_74 rfl rfl ?_
              refine Ru_ishl1N (pc := 75) dX4_chosen_75 (by omega) ?_
              refine Ru_iorN (pc := 76) dX4_chosen_76 ?_
              refine Ru_goto (pc := 77) 87 dX4_chosen_77 (by decide) ?_
              refine Ru_iret (pc := 87) dX4_chosen_87 rfl ⟨Nat.le_refl _, Nat.le_refl _⟩ ?_
              have e : nCh d s r (q + 1) w h v left = (left ||| (2 ^ q)) := by
                unfold nCh
                rw [if_neg (by omega), Nat.add_sub_cancel, if_pos (by assumption)]
              rw [e] at k
              exact k
          · refine Ru_iconst (pc := 50) (nI 4) dX4_chosen_50 rfl ?_
            refine Ru_goto (pc := 51) 55 dX4_chosen_51 (by decide) ?_
            refine Ru_iorN (pc := 55) dX4_chosen_55 ?_
            refine Ru_istore (pc := 56) dX4_chosen_56 rfl (by decide) ?_
            have hwy : nWy q w h v = ((0 ||| 2) ||| 4) := by
              unfold nWy
              rw [if_neg (by omega), if_pos (by omega), if_pos (by omega)]
              rfl
            rw [← hwy]
            have hwl8 := nWy_lt q w h v
            refine Ru_aload_n (pc := 58) dX4_chosen_58 rfl rfl ?_
            refine Ru_getR (pc := 59) 47 dX4_chosen_59 fl_X4_9 rfl rfl (rfX_of (o := 46) (j := 1) rfl rfl) ?_
            refine Ru_iload_n (pc := 62) dX4_chosen_62 rfl rfl ?_
            refine Ru_iald (pc := 63) dX4_chosen_63 rfl (by omega) ?_
            refine Ru_top (h47 q (by omega)) ?_
            refine Ru_iload (pc := 64) dX4_chosen_64 rfl ?_
            refine Ru_ishrN (pc := 66) dX4_chosen_66 (by omega) ?_
            refine Ru_iconst (pc := 67) (nI 1) dX4_chosen_67 rfl ?_
            refine Ru_iandN (pc := 68) dX4_chosen_68 ?_
            refine Ru_if_eqN (pc := 69) 80 dX4_chosen_69 (by decide) (Nat.lt_of_le_of_lt Nat.and_le_right (by decide)) (fun h10 => ?_) (fun h10 => ?_)
            · have h10b := r_b1_f h10
              refine Ru_iload_n (pc := 80) dX4_chosen_80 rfl rfl ?_
              refine Ru_iconst (pc := 81) (nI 1) dX4_chosen_81 rfl ?_
              refine Ru_iload_n (pc := 82) dX4_chosen_82 rfl rfl ?_
              refine Ru_ishl1N (pc := 83) dX4_chosen_83 (by omega) ?_
              refine Ru_iconst (pc := 84) (-1) dX4_chosen_84 rfl ?_
              refine Ru_ixor (pc := 85) dX4_chosen_85 ?_
              refine Ru_idifN (pc := 86) dX4_chosen_86 ?_
              refine Ru_iret (pc := 87) dX4_chosen_87 rfl ⟨Nat.le_refl _, Nat.le_refl _⟩ ?_
              have e : nCh d s r (q + 1) w h v left = (r_dif left (2 ^ q)) := by
                unfold nCh
                rw [if_neg (by omega), Nat.add_sub_cancel, if_neg (by simp_all)]
              rw [e] at k
              exact k
            · have h10b := r_b1_t h10
              refine Ru_iload_n (pc := 72) dX4_chosen_72 rfl rfl ?_
              refine Ru_iconst (pc := 73) (nI 1) dX4_chosen_73 rfl ?_
              refine Ru_iload_n (pc := 74) dX4_chosen_74 rfl rfl ?_
              refine Ru_ishl1N (pc := 75) dX4_chosen_75 (by omega) ?_
              refine Ru_iorN (pc := 76) dX4_chosen_76 ?_
              refine Ru_goto (pc := 77) 87 dX4_chosen_77 (by decide) ?_
              refine Ru_iret (pc := 87) dX4_chosen_87 rfl ⟨Nat.le_refl _, Nat.le_refl _⟩ ?_
              have e : nCh d s r (q + 1) w h v left = (left ||| (2 ^ q)) := by
                unfold nCh
                rw [if_neg (by omega), Nat.add_sub_cancel, if_pos (by assumption)]
              rw [e] at k
              exact k
      · refine Ru_iconst (pc := 19) (nI 1) dX4_chosen_19 rfl ?_
        refine Ru_goto (pc := 20) 24 dX4_chosen_20 (by decide) ?_
        refine Ru_istore (pc := 24) dX4_chosen_24 rfl (by decide) ?_
        refine Ru_iload (pc := 26) dX4_chosen_26 rfl ?_
        refine Ru_iload_n (pc := 28) dX4_chosen_28 rfl rfl ?_
        refine Ru_iload (pc := 29) dX4_chosen_29 rfl ?_
        refine Ru_icmp_neR (pc := 31) 38 dX4_chosen_31 (by decide) (by omega) (fun h11 => ?_) (fun h11 => ?_)
        · refine Ru_iconst (pc := 38) (nI 0) dX4_chosen_38 rfl ?_
          refine Ru_iorN (pc := 39) dX4_chosen_39 ?_
          refine Ru_istore (pc := 40) dX4_chosen_40 rfl (by decide) ?_
          refine Ru_iload (pc := 42) dX4_chosen_42 rfl ?_
          refine Ru_iload_n (pc := 44) dX4_chosen_44 rfl rfl ?_
          refine Ru_iload (pc := 45) dX4_chosen_45 rfl ?_
          refine Ru_icmp_neR (pc := 47) 54 dX4_chosen_47 (by decide) (by omega) (fun h12 => ?_) (fun h12 => ?_)
          · refine Ru_iconst (pc := 54) (nI 0) dX4_chosen_54 rfl ?_
            refine Ru_iorN (pc := 55) dX4_chosen_55 ?_
            refine Ru_istore (pc := 56) dX4_chosen_56 rfl (by decide) ?_
            have hwy : nWy q w h v = ((1 ||| 0) ||| 0) := by
              unfold nWy
              rw [if_pos (by omega), if_neg (by omega), if_neg (by omega)]
              rfl
            rw [← hwy]
            have hwl8 := nWy_lt q w h v
            refine Ru_aload_n (pc := 58) dX4_chosen_58 rfl rfl ?_
            refine Ru_getR (pc := 59) 47 dX4_chosen_59 fl_X4_9 rfl rfl (rfX_of (o := 46) (j := 1) rfl rfl) ?_
            refine Ru_iload_n (pc := 62) dX4_chosen_62 rfl rfl ?_
            refine Ru_iald (pc := 63) dX4_chosen_63 rfl (by omega) ?_
            refine Ru_top (h47 q (by omega)) ?_
            refine Ru_iload (pc := 64) dX4_chosen_64 rfl ?_
            refine Ru_ishrN (pc := 66) dX4_chosen_66 (by omega) ?_
            refine Ru_iconst (pc := 67) (nI 1) dX4_chosen_67 rfl ?_
            refine Ru_iandN (pc := 68) dX4_chosen_68 ?_
            refine Ru_if_eqN (pc := 69) 80 dX4_chosen_69 (by decide) (Nat.lt_of_le_of_lt Nat.and_le_right (by decide)) (fun h13 => ?_) (fun h13 => ?_)
            · have h13b := r_b1_f h13
              refine Ru_iload_n (pc := 80) dX4_chosen_80 rfl rfl ?_
              refine Ru_iconst (pc := 81) (nI 1) dX4_chosen_81 rfl ?_
              refine Ru_iload_n (pc := 82) dX4_chosen_82 rfl rfl ?_
              refine Ru_ishl1N (pc := 83) dX4_chosen_83 (by omega) ?_
              refine Ru_iconst (pc := 84) (-1) dX4_chosen_84 rfl ?_
              refine Ru_ixor (pc := 85) dX4_chosen_85 ?_
              refine Ru_idifN (pc := 86) dX4_chosen_86 ?_
              refine Ru_iret (pc := 87) dX4_chosen_87 rfl ⟨Nat.le_refl _, Nat.le_refl _⟩ ?_
              have e : nCh d s r (q + 1) w h v left = (r_dif left (2 ^ q)) := by
                unfold nCh
                rw [if_neg (by omega), Nat.add_sub_cancel, if_neg (by simp_all)]
              rw [e] at k
              exact k
            · have h13b := r_b1_t h13
              refine Ru_iload_n (pc := 72) dX4_chosen_72 rfl rfl ?_
              refine Ru_iconst (pc := 73) (nI 1) dX4_chosen_73 rfl ?_
              refine Ru_iload_n (pc := 74) dX4_chosen_74 rfl rfl ?_
              refine Ru_ishl1N (pc := 75) dX4_chosen_75 (by omega) ?_
              refine Ru_iorN (pc := 76) dX4_chosen_76 ?_
              refine Ru_goto (pc := 77) 87 dX4_chosen_77 (by decide) ?_
              refine Ru_iret (pc := 87) dX4_chosen_87 rfl ⟨Nat.le_refl _, Nat.le_refl _⟩ ?_
              have e : nCh d s r (q + 1) w h v left = (left ||| (2 ^ q)) := by
                unfold nCh
                rw [if_neg (by omega), Nat.add_sub_cancel, if_pos (by assumption)]
              rw [e] at k
              exact k
          · refine Ru_iconst (pc := 50) (nI 4) dX4_chosen_50 rfl ?_
            refine Ru_goto (pc := 51) 55 dX4_chosen_51 (by decide) ?_
            refine Ru_iorN (pc := 55) dX4_chosen_55 ?_
            refine Ru_istore (pc := 56) dX4_chosen_56 rfl (by decide) ?_
            have hwy : nWy q w h v = ((1 ||| 0) ||| 4) := by
              unfold nWy
              rw [if_pos (by omega), if_neg (by omega), if_pos (by omega)]
              rfl
            rw [← hwy]
            have hwl8 := nWy_lt q w h v
            refine Ru_aload_n (pc := 58) dX4_chosen_58 rfl rfl ?_
            refine Ru_getR (pc := 59) 47 dX4_chosen_59 fl_X4_9 rfl rfl (rfX_of (o := 46) (j := 1) rfl rfl) ?_
            refine Ru_iload_n (pc := 62) dX4_chosen_62 rfl rfl ?_
            refine Ru_iald (pc := 63) dX4_chosen_63 rfl (by omega) ?_
            refine Ru_top (h47 q (by omega)) ?_
            refine Ru_iload (pc := 64) dX4_chosen_64 rfl ?_
            refine Ru_ishrN (pc := 66) dX4_chosen_66 (by omega) ?_
            refine Ru_iconst (pc := 67) (nI 1) dX4_chosen_67 rfl ?_
            refine Ru_iandN (pc := 68) dX4_chosen_68 ?_
            refine Ru_if_eqN (pc := 69) 80 dX4_chosen_69 (by decide) (Nat.lt_of_le_of_lt Nat.and_le_right (by decide)) (fun h14 => ?_) (fun h14 => ?_)
            · have h14b := r_b1_f h14
              refine Ru_iload_n (pc := 80) dX4_chosen_80 rfl rfl ?_
              refine Ru_iconst (pc := 81) (nI 1) dX4_chosen_81 rfl ?_
              refine Ru_iload_n (pc := 82) dX4_chosen_82 rfl rfl ?_
              refine Ru_ishl1N (pc := 83) dX4_chosen_83 (by omega) ?_
              refine Ru_iconst (pc := 84) (-1) dX4_chosen_84 rfl ?_
              refine Ru_ixor (pc := 85) dX4_chosen_85 ?_
              refine Ru_idifN (pc := 86) dX4_chosen_86 ?_
              refine Ru_iret (pc := 87) dX4_chosen_87 rfl ⟨Nat.le_refl _, Nat.le_refl _⟩ ?_
              have e : nCh d s r (q + 1) w h v left = (r_dif left (2 ^ q)) := by
                unfold nCh
                rw [if_neg (by omega), Nat.add_sub_cancel, if_neg (by simp_all)]
              rw [e] at k
              exact k
            · have h14b := r_b1_t h14
              refine Ru_iload_n (pc := 72) dX4_chosen_72 rfl rfl ?_
              refine Ru_iconst (pc := 73) (nI 1) dX4_chosen_73 rfl ?_
              refine Ru_iload_n (pc := 74) dX4_chosen_74 rfl rfl ?_
              refine Ru_ishl1N (pc := 75) dX4_chosen_75 (by omega) ?_
              refine Ru_iorN (pc := 76) dX4_chosen_76 ?_
              refine Ru_goto (pc := 77) 87 dX4_chosen_77 (by decide) ?_
              refine Ru_iret (pc := 87) dX4_chosen_87 rfl ⟨Nat.le_refl _, Nat.le_refl _⟩ ?_
              have e : nCh d s r (q + 1) w h v left = (left ||| (2 ^ q)) := by
                unfold nCh
                rw [if_neg (by omega), Nat.add_sub_cancel, if_pos (by assumption)]
              rw [e] at k
              exact k
        · refine Ru_iconst (pc := 34) (nI 2) dX4_chosen_34 rfl ?_
          refine Ru_goto (pc := 35) 39 dX4_chosen_35 (by decide) ?_
          refine Ru_iorN (pc := 39) dX4_chosen_39 ?_
          refine Ru_istore (pc := 40) dX4_chosen_40 rfl (by decide) ?_
          refine Ru_iload (pc := 42) dX4_chosen_42 rfl ?_
          refine Ru_iload_n (pc := 44) dX4_chosen_44 rfl rfl ?_
          refine Ru_iload (pc := 45) dX4_chosen_45 rfl ?_
          refine Ru_icmp_neR (pc := 47) 54 dX4_chosen_47 (by decide) (by omega) (fun h15 => ?_) (fun h15 => ?_)
          · refine Ru_iconst (pc := 54) (nI 0) dX4_chosen_54 rfl ?_
            refine Ru_iorN (pc := 55) dX4_chosen_55 ?_
            refine Ru_istore (pc := 56) dX4_chosen_56 rfl (by decide) ?_
            have hwy : nWy q w h v = ((1 ||| 2) ||| 0) := by
              unfold nWy
              rw [if_pos (by omega), if_pos (by omega), if_neg (by omega)]
              rfl
            rw [← hwy]
            have hwl8 := nWy_lt q w h v
            refine Ru_aload_n (pc := 58) dX4_chosen_58 rfl rfl ?_
            refine Ru_getR (pc := 59) 47 dX4_chosen_59 fl_X4_9 rfl rfl (rfX_of (o := 46) (j := 1) rfl rfl) ?_
            refine Ru_iload_n (pc := 62) dX4_chosen_62 rfl rfl ?_
            refine Ru_iald (pc := 63) dX4_chosen_63 rfl (by omega) ?_
            refine Ru_top (h47 q (by omega)) ?_
            refine Ru_iload (pc := 64) dX4_chosen_64 rfl ?_
            refine Ru_ishrN (pc := 66) dX4_chosen_66 (by omega) ?_
            refine Ru_iconst (pc := 67) (nI 1) dX4_chosen_67 rfl ?_
            refine Ru_iandN (pc := 68) dX4_chosen_68 ?_
            refine Ru_if_eqN (pc := 69) 80 dX4_chosen_69 (by decide) (Nat.lt_of_le_of_lt Nat.and_le_right (by decide)) (fun h16 => ?_) (fun h16 => ?_)
            · have h16b := r_b1_f h16
              refine Ru_iload_n (pc := 80) dX4_chosen_80 rfl rfl ?_
              refine Ru_iconst (pc := 81) (nI 1) dX4_chosen_81 rfl ?_
              refine Ru_iload_n (pc := 82) dX4_chosen_82 rfl rfl ?_
              refine Ru_ishl1N (pc := 83) dX4_chosen_83 (by omega) ?_
              refine Ru_iconst (pc := 84) (-1) dX4_chosen_84 rfl ?_
              refine Ru_ixor (pc := 85) dX4_chosen_85 ?_
              refine Ru_idifN (pc := 86) dX4_chosen_86 ?_
              refine Ru_iret (pc := 87) dX4_chosen_87 rfl ⟨Nat.le_refl _, Nat.le_refl _⟩ ?_
              have e : nCh d s r (q + 1) w h v left = (r_dif left (2 ^ q)) := by
                unfold nCh
                rw [if_neg (by omega), Nat.add_sub_cancel, if_neg (by simp_all)]
              rw [e] at k
              exact k
            · have h16b := r_b1_t h16
              refine Ru_iload_n (pc := 72) dX4_chosen_72 rfl rfl ?_
              refine Ru_iconst (pc := 73) (nI 1) dX4_chosen_73 rfl ?_
              refine Ru_iload_n (pc := 74) dX4_chosen_74 rfl rfl ?_
              refine Ru_ishl1N (pc := 75) dX4_chosen_75 (by omega) ?_
              refine Ru_iorN (pc := 76) dX4_chosen_76 ?_
              refine Ru_goto (pc := 77) 87 dX4_chosen_77 (by decide) ?_
              refine Ru_iret (pc := 87) dX4_chosen_87 rfl ⟨Nat.le_refl _, Nat.le_refl _⟩ ?_
              have e : nCh d s r (q + 1) w h v left = (left ||| (2 ^ q)) := by
                unfold nCh
                rw [if_neg (by omega), Nat.add_sub_cancel, if_pos (by assumption)]
              rw [e] at k
              exact k
          · refine Ru_iconst (pc := 50) (nI 4) dX4_chosen_50 rfl ?_
            refine Ru_goto (pc := 51) 55 dX4_chosen_51 (by decide) ?_
            refine Ru_iorN (pc := 55) dX4_chosen_55 ?_
            refine Ru_istore (pc := 56) dX4_chosen_56 rfl (by decide) ?_
            have hwy : nWy q w h v = ((1 ||| 2) ||| 4) := by
              unfold nWy
              rw [if_pos (by omega), if_pos (by omega), if_pos (by omega)]
              rfl
            rw [← hwy]
            have hwl8 := nWy_lt q w h v
            refine Ru_aload_n (pc := 58) dX4_chosen_58 rfl rfl ?_
            refine Ru_getR (pc := 59) 47 dX4_chosen_59 fl_X4_9 rfl rfl (rfX_of (o := 46) (j := 1) rfl rfl) ?_
            refine Ru_iload_n (pc := 62) dX4_chosen_62 rfl rfl ?_
            refine Ru_iald (pc := 63) dX4_chosen_63 rfl (by omega) ?_
            refine Ru_top (h47 q (by omega)) ?_
            refine Ru_iload (pc := 64) dX4_chosen_64 rfl ?_
            refine Ru_ishrN (pc := 66) dX4_chosen_66 (by omega) ?_
            refine Ru_iconst (pc := 67) (nI 1) dX4_chosen_67 rfl ?_
            refine Ru_iandN (pc := 68) dX4_chosen_68 ?_
            refine Ru_if_eqN (pc := 69) 80 dX4_chosen_69 (by decide) (Nat.lt_of_le_of_lt Nat.and_le_right (by decide)) (fun h17 => ?_) (fun h17 => ?_)
            · have h17b := r_b1_f h17
              refine Ru_iload_n (pc := 80) dX4_chosen_80 rfl rfl ?_
              refine Ru_iconst (pc := 81) (nI 1) dX4_chosen_81 rfl ?_
              refine Ru_iload_n (pc := 82) dX4_chosen_82 rfl rfl ?_
              refine Ru_ishl1N (pc := 83) dX4_chosen_83 (by omega) ?_
              refine Ru_iconst (pc := 84) (-1) dX4_chosen_84 rfl ?_
              refine Ru_ixor (pc := 85) dX4_chosen_85 ?_
              refine Ru_idifN (pc := 86) dX4_chosen_86 ?_
              refine Ru_iret (pc := 87) dX4_chosen_87 rfl ⟨Nat.le_refl _, Nat.le_refl _⟩ ?_
              have e : nCh d s r (q + 1) w h v left = (r_dif left (2 ^ q)) := by
                unfold nCh
                rw [if_neg (by omega), Nat.add_sub_cancel, if_neg (by simp_all)]
              rw [e] at k
              exact k
            · have h17b := r_b1_t h17
              refine Ru_iload_n (pc := 72) dX4_chosen_72 rfl rfl ?_
              refine Ru_iconst (pc := 73) (nI 1) dX4_chosen_73 rfl ?_
              refine Ru_iload_n (pc := 74) dX4_chosen_74 rfl rfl ?_
              refine Ru_ishl1N (pc := 75) dX4_chosen_75 (by omega) ?_
              refine Ru_iorN (pc := 76) dX4_chosen_76 ?_
              refine Ru_goto (pc := 77) 87 dX4_chosen_77 (by decide) ?_
              refine Ru_iret (pc := 87) dX4_chosen_87 rfl ⟨Nat.le_refl _, Nat.le_refl _⟩ ?_
              have e : nCh d s r (q + 1) w h v left = (left ||| (2 ^ q)) := by
                unfold nCh
                rw [if_neg (by omega), Nat.add_sub_cancel, if_pos (by assumption)]
              rw [e] at k
              exact k
    · exfalso
      omega

theorem c_X4_left {Q : Rq} {M : Mem} {d : Td} {s r w h v : Nat} (hd0 : d 0 ≤ 8) (h47 : ∀ k, k < d 0 → M.1 47 k = nI (nS d s r k)) (hth : M.1 46 0 = nI (d 0)) (hpl : M.1 46 2 = nI (nPl d s r (d 0))) (hcd : w ≤ d 0 ∧ h ≤ d 0 ∧ v ≤ d 0) (k : Q (some (.int (nI (stA d 0 s r w h v)))) GX M) : Ca 1 mt_X4_left 0 0 [.ref 46, .int (nM w), .int (nM h), .int (nM v)] GX M Q := by
  refine Ca_of rfl (Nat.le_of_ble_eq_true rfl) ?_
  refine Ru_aload_n (pc := 0) dX4_left_0 rfl rfl ?_
  refine Ru_getI (pc := 1) dX4_left_1 fl_X4_44 rfl rfl ?_
  refine Ru_top hpl ?_
  refine Ru_istore (pc := 4) dX4_left_4 rfl (by decide) ?_
  refine Ru_aload_n (pc := 6) dX4_left_6 rfl rfl ?_
  refine Ru_iload (pc := 7) dX4_left_7 rfl ?_
  refine Ru_iload_n (pc := 9) dX4_left_9 rfl rfl ?_
  refine Ru_iload_n (pc := 10) dX4_left_10 rfl rfl ?_
  refine Ru_iload_n (pc := 11) dX4_left_11 rfl rfl ?_
  refine Ru_iload_n (pc := 12) dX4_left_12 rfl rfl ?_
  refine Ru_cv5 (pc := 13) dX4_left_13 mv_X4_73 rfl (by decide) (Nat.le_of_ble_eq_true rfl) (c_X4_chosen (x := w) hd0 h47 hth hcd (by omega) ?_) 
  refine Ru_istore (pc := 16) dX4_left_16 rfl (by decide) ?_
  refine Ru_aload_n (pc := 18) dX4_left_18 rfl rfl ?_
  refine Ru_iload (pc := 19) dX4_left_19 rfl ?_
  refine Ru_iload_n (pc := 21) dX4_left_21 rfl rfl ?_
  refine Ru_iload_n (pc := 22) dX4_left_22 rfl rfl ?_
  refine Ru_iload_n (pc := 23) dX4_left_23 rfl rfl ?_
  refine Ru_iload_n (pc := 24) dX4_left_24 rfl rfl ?_
  refine Ru_cv5 (pc := 25) dX4_left_25 mv_X4_73 rfl (by decide) (Nat.le_of_ble_eq_true rfl) (c_X4_chosen (x := h) hd0 h47 hth hcd (by omega) ?_) 
  refine Ru_istore (pc := 28) dX4_left_28 rfl (by decide) ?_
  refine Ru_aload_n (pc := 30) dX4_left_30 rfl rfl ?_
  refine Ru_iload (pc := 31) dX4_left_31 rfl ?_
  refine Ru_iload_n (pc := 33) dX4_left_33 rfl rfl ?_
  refine Ru_iload_n (pc := 34) dX4_left_34 rfl rfl ?_
  refine Ru_iload_n (pc := 35) dX4_left_35 rfl rfl ?_
  refine Ru_iload_n (pc := 36) dX4_left_36 rfl rfl ?_
  refine Ru_cv5 (pc := 37) dX4_left_37 mv_X4_73 rfl (by decide) (Nat.le_of_ble_eq_true rfl) (c_X4_chosen (x := v) hd0 h47 hth hcd (by omega) ?_) 
  refine Ru_iret (pc := 40) dX4_left_40 rfl ⟨Nat.le_refl _, Nat.le_refl _⟩ ?_
  rw [← nLeft_eq hcd.1 hcd.2.1 hcd.2.2] at k
  exact k

theorem may_and {s n : Nat} {f : Nat → Nat} (hf : ∀ i, i < 8 → f i ≤ 1) (hs : s < 256) : ∀ w, w ≤ 8 → mayB (s &&& bt f 8) (fun _ => true) w = mayB s (fun t => decide (f t = 1)) w
  | 0, _ => rfl
  | t + 1, h => by
    rw [mayB, mayB, Nat.testBit_and, bt_tb hf (by omega), Bool.and_true]
theorem may_aw {s : Nat} {b : Bool} : ∀ w, mayB (if b = true then s else 0) (fun _ => true) w = mayB s (fun _ => b) w
  | 0 => rfl
  | t + 1 => by
    rw [mayB, mayB]
    cases b <;> simp

theorem c_X11_night {Q : Rq} {M : Mem} {mk t lw pl : Nat} {d : Td} {s w h v y : Int32} (hu : X_cu mk t lw pl d M) (hx : X_tm t d M) (hlw : X_lw lw d M) (wf : Wf d) (hwl : Wl d) (k : ∀ M', r_fx [(0, 0), (46, 0), (46, 2)] [47, 48] M M' → M'.1 0 0 = nI (g_night d s w h v y).2 → Q (some (.int (g_night d s w h v y).1)) GX M') : Ca 3 mt_X11_night 0 0 [.ref 0, .int s, .int w, .int h, .int v, .int y] GX M Q := by
  refine Ca_of rfl (Nat.le_of_ble_eq_true rfl) ?_
  have hb := wf.1
  have hp := pw_le hb.1
  have ht : isTown t := hu.1.2.2.2
  have em : (-1 : Int32).toInt = -1 := rfl
  have hf5 : ∀ i, i < 8 → (fun i => d (5 + i)) i ≤ 1 := fun i hi => (wf.2.1 i hi).1
  have hf13 : ∀ i, i < 8 → (fun i => d (13 + i)) i ≤ 1 := fun i hi => (wf.2.1 i hi).2.1
  refine Ru_aload_n (pc := 0) dX11_night_0 rfl rfl ?_
  refine Ru_iload_n (pc := 1) dX11_night_1 rfl rfl ?_
  refine Ru_cv1 (pc := 2) dX11_night_2 mv_X11_254 rfl (by decide) (Nat.le_of_ble_eq_true rfl) (c_X11_isSet hu hx wf ?_) 
  refine Ru_if_eqB (pc := 5) 33 dX11_night_5 (by decide) (fun h1 => ?_) (fun h1 => ?_)
  · replace h1 := of_decide_eq_false h1
    refine Ru_aload_n (pc := 33) dX11_night_33 rfl rfl ?_
    refine Ru_iconst (pc := 34) (nI 2) dX11_night_34 rfl ?_
    refine Ru_cv1 (pc := 35) dX11_night_35 mv_X11_112 rfl (by decide) (Nat.le_of_ble_eq_true rfl) (c_X11_fail ?_) 
    refine Ru_iret (pc := 38) dX11_night_38 rfl ⟨Nat.le_refl _, Nat.le_refl _⟩ ?_
    have e : g_night d s w h v y = (-1, 2) := by
      unfold g_night
      rw [if_pos (by omega)]
    rw [e] at k
    exact k _ (r_fx.sI rfl r_fx.rf) r_sI_s
  · replace h1 := of_decide_eq_true h1
    refine Ru_aload_n (pc := 8) dX11_night_8 rfl rfl ?_
    refine Ru_iload_n (pc := 9) dX11_night_9 rfl rfl ?_
    refine Ru_cv1 (pc := 10) dX11_night_10 mv_X11_257 rfl (by decide) (Nat.le_of_ble_eq_true rfl) (c_X11_isThingOrNone hu hx wf ?_) 
    refine Ru_if_eqB (pc := 13) 33 dX11_night_13 (by decide) (fun h2 => ?_) (fun h2 => ?_)
    · replace h2 := of_decide_eq_false h2
      refine Ru_aload_n (pc := 33) dX11_night_33 rfl rfl ?_
      refine Ru_iconst (pc := 34) (nI 2) dX11_night_34 rfl ?_
      refine Ru_cv1 (pc := 35) dX11_night_35 mv_X11_112 rfl (by decide) (Nat.le_of_ble_eq_true rfl) (c_X11_fail ?_) 
      refine Ru_iret (pc := 38) dX11_night_38 rfl ⟨Nat.le_refl _, Nat.le_refl _⟩ ?_
      have e : g_night d s w h v y = (-1, 2) := by
        unfold g_night
        rw [if_pos (by omega)]
      rw [e] at k
      exact k _ (r_fx.sI rfl r_fx.rf) r_sI_s
    · replace h2 := of_decide_eq_true h2
      refine Ru_aload_n (pc := 16) dX11_night_16 rfl rfl ?_
      refine Ru_iload_n (pc := 17) dX11_night_17 rfl rfl ?_
      refine Ru_cv1 (pc := 18) dX11_night_18 mv_X11_257 rfl (by decide) (Nat.le_of_ble_eq_true rfl) (c_X11_isThingOrNone hu hx wf ?_) 
      refine Ru_if_eqB (pc := 21) 33 dX11_night_21 (by decide) (fun h3 => ?_) (fun h3 => ?_)
      · replace h3 := of_decide_eq_false h3
        refine Ru_aload_n (pc := 33) dX11_night_33 rfl rfl ?_
        refine Ru_iconst (pc := 34) (nI 2) dX11_night_34 rfl ?_
        refine Ru_cv1 (pc := 35) dX11_night_35 mv_X11_112 rfl (by decide) (Nat.le_of_ble_eq_true rfl) (c_X11_fail ?_) 
        refine Ru_iret (pc := 38) dX11_night_38 rfl ⟨Nat.le_refl _, Nat.le_refl _⟩ ?_
        have e : g_night d s w h v y = (-1, 2) := by
          unfold g_night
          rw [if_pos (by omega)]
        rw [e] at k
        exact k _ (r_fx.sI rfl r_fx.rf) r_sI_s
      · replace h3 := of_decide_eq_true h3
        refine Ru_aload_n (pc := 24) dX11_night_24 rfl rfl ?_
        refine Ru_iload (pc := 25) dX11_night_25 rfl ?_
        refine Ru_cv1 (pc := 27) dX11_night_27 mv_X11_257 rfl (by decide) (Nat.le_of_ble_eq_true rfl) (c_X11_isThingOrNone hu hx wf ?_) 
        refine Ru_if_neB (pc := 30) 39 dX11_night_30 (by decide) (fun h4 => ?_) (fun h4 => ?_)
        · replace h4 := of_decide_eq_true h4
          refine Ru_aload_n (pc := 39) dX11_night_39 rfl rfl ?_
          refine Ru_iload (pc := 40) dX11_night_40 rfl ?_
          refine Ru_cv1 (pc := 42) dX11_night_42 mv_X11_260 rfl (by decide) (Nat.le_of_ble_eq_true rfl) (c_X11_isDay ?_) 
          refine Ru_if_neB (pc := 45) 54 dX11_night_45 (by decide) (fun h5 => ?_) (fun h5 => ?_)
          · replace h5 := of_decide_eq_true h5
            obtain ⟨s', hs', rfl⟩ := r_nat (x := s) (n := 256) (by omega) (by omega)
            have es := r_tn (show s' < 2147483648 by omega)
            obtain ⟨w', hw', rfl⟩ := nM_of (x := w) (n := d 0) (by omega) (by omega)
            have ew := nM_t (show w' < 2147483648 by omega)
            have ew2 := nM_c (show w' < 2147483648 by omega)
            obtain ⟨h', hh', rfl⟩ := nM_of (x := h) (n := d 0) (by omega) (by omega)
            have eh := nM_t (show h' < 2147483648 by omega)
            have eh2 := nM_c (show h' < 2147483648 by omega)
            obtain ⟨v', hv', rfl⟩ := nM_of (x := v) (n := d 0) (by omega) (by omega)
            have ev := nM_t (show v' < 2147483648 by omega)
            have ev2 := nM_c (show v' < 2147483648 by omega)
            obtain ⟨y', hy', rfl⟩ := r_nat (x := y) (n := 1000) (by omega) (by omega)
            have ey := r_tn (show y' < 2147483648 by omega)
            refine Ru_aload_n (pc := 54) dX11_night_54 rfl rfl ?_
            refine Ru_cv0 (pc := 55) dX11_night_55 mv_X11_154 rfl (by decide) (Nat.le_of_ble_eq_true rfl) (c_X11_now hu ?_) 
            refine Ru_cv0 (pc := 58) dX11_night_58 mv_X11_211 (shTown_0 ht) (by decide) (Nat.le_of_ble_eq_true rfl) (c_X9_isAwake ht hx wf ?_) 
            refine Ru_if_eqB (pc := 61) 68 dX11_night_61 (by decide) (fun h6 => ?_) (fun h6 => ?_)
            · refine Ru_iconst (pc := 68) (nI 0) dX11_night_68 rfl ?_
              refine Ru_istore (pc := 69) dX11_night_69 rfl (by decide) ?_
              refine Ru_aload_n (pc := 71) dX11_night_71 rfl rfl ?_
              refine Ru_iload_n (pc := 72) dX11_night_72 rfl rfl ?_
              refine Ru_iload_n (pc := 73) dX11_night_73 rfl rfl ?_
              refine Ru_aload_n (pc := 74) dX11_night_74 rfl rfl ?_
              refine Ru_cv0 (pc := 75) dX11_night_75 mv_X11_154 rfl (by decide) (Nat.le_of_ble_eq_true rfl) (c_X11_now hu ?_) 
              refine Ru_getI (pc := 78) dX11_night_78 fl_X11_217 (shTown_0 ht) rfl ?_
              refine Ru_top hx.2.1.1 ?_
              refine Ru_iandN (pc := 81) dX11_night_81 ?_
              refine Ru_cv2 (pc := 82) dX11_night_82 mv_X11_263 rfl (by decide) (Nat.le_of_ble_eq_true rfl) (c_X11_isAmong (s := (s' &&& (bt (fun i => d (5 + i)) 8))) w' (Nat.lt_of_le_of_lt Nat.and_le_left (by omega)) (by omega) ?_) 
              refine Ru_if_eqB (pc := 85) 116 dX11_night_85 (by decide) (fun h7 => ?_) (fun h7 => ?_)
              · refine Ru_aload_n (pc := 116) dX11_night_116 rfl rfl ?_
                refine Ru_bipush (pc := 117) (nI 9) dX11_night_117 rfl ?_
                refine Ru_cv1 (pc := 119) dX11_night_119 mv_X11_112 rfl (by decide) (Nat.le_of_ble_eq_true rfl) (c_X11_fail ?_) 
                refine Ru_iret (pc := 122) dX11_night_122 rfl ⟨Nat.le_refl _, Nat.le_refl _⟩ ?_
                have e : g_night d (nI s') (nM w') (nM h') (nM v') (nI y') = (-1, 9) := by
                  unfold g_night
                  rw [if_neg (by omega), if_neg (by omega), r_tnn (show s' < 2147483648 by omega), r_tnn (show y' < 2147483648 by omega), ew2, eh2, ev2]
                  have m1 := may_and (n := 0) hf5 hs' w' (by omega)
                  have m2 := may_and (n := 0) hf13 hs' v' (by omega)
                  have m3 := may_aw (s := s') (b := twAw d) h'
                  rw [if_pos]
                  intro z
                  obtain ⟨z1, z2, z3⟩ := z
                  simp_all
                rw [e] at k
                exact k _ (r_fx.sI rfl r_fx.rf) r_sI_s
              · refine Ru_aload_n (pc := 88) dX11_night_88 rfl rfl ?_
                refine Ru_iload_n (pc := 89) dX11_night_89 rfl rfl ?_
                refine Ru_iload (pc := 90) dX11_night_90 rfl ?_
                refine Ru_cv2 (pc := 92) dX11_night_92 mv_X11_263 rfl (by decide) (Nat.le_of_ble_eq_true rfl) (c_X11_isAmong (s := 0) h' (by omega) (by omega) ?_) 
                refine Ru_if_eqB (pc := 95) 116 dX11_night_95 (by decide) (fun h8 => ?_) (fun h8 => ?_)
                · refine Ru_aload_n (pc := 116) dX11_night_116 rfl rfl ?_
                  refine Ru_bipush (pc := 117) (nI 9) dX11_night_117 rfl ?_
                  refine Ru_cv1 (pc := 119) dX11_night_119 mv_X11_112 rfl (by decide) (Nat.le_of_ble_eq_true rfl) (c_X11_fail ?_) 
                  refine Ru_iret (pc := 122) dX11_night_122 rfl ⟨Nat.le_refl _, Nat.le_refl _⟩ ?_
                  have e : g_night d (nI s') (nM w') (nM h') (nM v') (nI y') = (-1, 9) := by
                    unfold g_night
                    rw [if_neg (by omega), if_neg (by omega), r_tnn (show s' < 2147483648 by omega), r_tnn (show y' < 2147483648 by omega), ew2, eh2, ev2]
                    have m1 := may_and (n := 0) hf5 hs' w' (by omega)
                    have m2 := may_and (n := 0) hf13 hs' v' (by omega)
                    have m3 := may_aw (s := s') (b := twAw d) h'
                    rw [if_pos]
                    intro z
                    obtain ⟨z1, z2, z3⟩ := z
                    simp_all
                  rw [e] at k
                  exact k _ (r_fx.sI rfl r_fx.rf) r_sI_s
                · refine Ru_aload_n (pc := 98) dX11_night_98 rfl rfl ?_
                  refine Ru_iload (pc := 99) dX11_night_99 rfl ?_
                  refine Ru_iload_n (pc := 101) dX11_night_101 rfl rfl ?_
                  refine Ru_aload_n (pc := 102) dX11_night_102 rfl rfl ?_
                  refine Ru_cv0 (pc := 103) dX11_night_103 mv_X11_154 rfl (by decide) (Nat.le_of_ble_eq_true rfl) (c_X11_now hu ?_) 
                  refine Ru_getI (pc := 106) dX11_night_106 fl_X11_220 (shTown_0 ht) rfl ?_
                  refine Ru_top hx.2.1.2.1 ?_
                  refine Ru_iandN (pc := 109) dX11_night_109 ?_
                  refine Ru_cv2 (pc := 110) dX11_night_110 mv_X11_263 rfl (by decide) (Nat.le_of_ble_eq_true rfl) (c_X11_isAmong (s := (s' &&& (bt (fun i => d (13 + i)) 8))) v' (Nat.lt_of_le_of_lt Nat.and_le_left (by omega)) (by omega) ?_) 
                  refine Ru_if_neB (pc := 113) 123 dX11_night_113 (by decide) (fun h9 => ?_) (fun h9 => ?_)
                  · refine Ru_aload_n (pc := 123) dX11_night_123 rfl rfl ?_
                    refine Ru_getR (pc := 124) 46 dX11_night_124 fl_X11_54 rfl rfl (rfX_of (o := 0) (j := 46) rfl rfl) ?_
                    refine Ru_aload_n (pc := 127) dX11_night_127 rfl rfl ?_
                    refine Ru_cv0 (pc := 128) dX11_night_128 mv_X11_154 rfl (by decide) (Nat.le_of_ble_eq_true rfl) (c_X11_now hu ?_) 
                    refine Ru_iload_n (pc := 131) dX11_night_131 rfl rfl ?_
                    refine Ru_iload (pc := 132) dX11_night_132 rfl ?_
                    refine Ru_bipush (pc := 134) (nI 7) dX11_night_134 rfl ?_
                    refine Ru_iremN (pc := 136) dX11_night_136 (by omega) ?_
                    refine Ru_cv3 (pc := 137) dX11_night_137 mv_X11_266 rfl (by decide) (Nat.le_of_ble_eq_true rfl) (c_X4_look hu hx hlw wf hwl (s := s') (r := y' % 7) (by omega) (by omega) (fun M2 h47 hth hpl fx2 => ?_)) 
                    refine Ru_aload_n (pc := 140) dX11_night_140 rfl rfl ?_
                    refine Ru_aload_n (pc := 141) dX11_night_141 rfl rfl ?_
                    refine Ru_getR (pc := 142) 46 dX11_night_142 fl_X11_54 rfl rfl (rfX_of (o := 0) (j := 46) rfl rfl) ?_
                    refine Ru_iload_n (pc := 145) dX11_night_145 rfl rfl ?_
                    refine Ru_iload_n (pc := 146) dX11_night_146 rfl rfl ?_
                    refine Ru_iload (pc := 147) dX11_night_147 rfl ?_
                    refine Ru_cv3 (pc := 149) dX11_night_149 mv_X11_270 rfl (by decide) (Nat.le_of_ble_eq_true rfl) (c_X4_left (s := s') (r := y' % 7) hb.1 h47 hth hpl ⟨by omega, by omega, by omega⟩ ?_) 
                    refine Ru_cv1 (pc := 152) dX11_night_152 mv_X11_170 rfl (by decide) (Nat.le_of_ble_eq_true rfl) (c_X11_tell ?_) 
                    refine Ru_iret (pc := 155) dX11_night_155 rfl ⟨Nat.le_refl _, Nat.le_refl _⟩ ?_
                    have e : g_night d (nI s') (nM w') (nM h') (nM v') (nI y') = ((nI (stA d 0 s' (y' % 7) w' h' v')), 0) := by
                      unfold g_night
                      rw [if_neg (by omega), if_neg (by omega), r_tnn (show s' < 2147483648 by omega), r_tnn (show y' < 2147483648 by omega), ew2, eh2, ev2]
                      have m1 := may_and (n := 0) hf5 hs' w' (by omega)
                      have m2 := may_and (n := 0) hf13 hs' v' (by omega)
                      have m3 := may_aw (s := s') (b := twAw d) h'
                      rw [if_neg]
                      intro z
                      apply z
                      refine ⟨?_, ?_, ?_⟩
                      · rw [← m1]; assumption
                      · rw [← m3]; simp_all
                      · rw [← m2]; assumption
                    rw [e] at k
                    exact k _ (r_fx.sI rfl (fx2.mono rfl)) r_sI_s
                  · refine Ru_aload_n (pc := 116) dX11_night_116 rfl rfl ?_
                    refine Ru_bipush (pc := 117) (nI 9) dX11_night_117 rfl ?_
                    refine Ru_cv1 (pc := 119) dX11_night_119 mv_X11_112 rfl (by decide) (Nat.le_of_ble_eq_true rfl) (c_X11_fail ?_) 
                    refine Ru_iret (pc := 122) dX11_night_122 rfl ⟨Nat.le_refl _, Nat.le_refl _⟩ ?_
                    have e : g_night d (nI s') (nM w') (nM h') (nM v') (nI y') = (-1, 9) := by
                      unfold g_night
                      rw [if_neg (by omega), if_neg (by omega), r_tnn (show s' < 2147483648 by omega), r_tnn (show y' < 2147483648 by omega), ew2, eh2, ev2]
                      have m1 := may_and (n := 0) hf5 hs' w' (by omega)
                      have m2 := may_and (n := 0) hf13 hs' v' (by omega)
                      have m3 := may_aw (s := s') (b := twAw d) h'
                      rw [if_pos]
                      intro z
                      obtain ⟨z1, z2, z3⟩ := z
                      simp_all
                    rw [e] at k
                    exact k _ (r_fx.sI rfl r_fx.rf) r_sI_s
            · refine Ru_iload_n (pc := 64) dX11_night_64 rfl rfl ?_
              refine Ru_goto (pc := 65) 69 dX11_night_65 (by decide) ?_
              refine Ru_istore (pc := 69) dX11_night_69 rfl (by decide) ?_
              refine Ru_aload_n (pc := 71) dX11_night_71 rfl rfl ?_
              refine Ru_iload_n (pc := 72) dX11_night_72 rfl rfl ?_
              refine Ru_iload_n (pc := 73) dX11_night_73 rfl rfl ?_
              refine Ru_aload_n (pc := 74) dX11_night_74 rfl rfl ?_
              refine Ru_cv0 (pc := 75) dX11_night_75 mv_X11_154 rfl (by decide) (Nat.le_of_ble_eq_true rfl) (c_X11_now hu ?_) 
              refine Ru_getI (pc := 78) dX11_night_78 fl_X11_217 (shTown_0 ht) rfl ?_
              refine Ru_top hx.2.1.1 ?_
              refine Ru_iandN (pc := 81) dX11_night_81 ?_
              refine Ru_cv2 (pc := 82) dX11_night_82 mv_X11_263 rfl (by decide) (Nat.le_of_ble_eq_true rfl) (c_X11_isAmong (s := (s' &&& (bt (fun i => d (5 + i)) 8))) w' (Nat.lt_of_le_of_lt Nat.and_le_left (by omega)) (by omega) ?_) 
              refine Ru_if_eqB (pc := 85) 116 dX11_night_85 (by decide) (fun h10 => ?_) (fun h10 => ?_)
              · refine Ru_aload_n (pc := 116) dX11_night_116 rfl rfl ?_
                refine Ru_bipush (pc := 117) (nI 9) dX11_night_117 rfl ?_
                refine Ru_cv1 (pc := 119) dX11_night_119 mv_X11_112 rfl (by decide) (Nat.le_of_ble_eq_true rfl) (c_X11_fail ?_) 
                refine Ru_iret (pc := 122) dX11_night_122 rfl ⟨Nat.le_refl _, Nat.le_refl _⟩ ?_
                have e : g_night d (nI s') (nM w') (nM h') (nM v') (nI y') = (-1, 9) := by
                  unfold g_night
                  rw [if_neg (by omega), if_neg (by omega), r_tnn (show s' < 2147483648 by omega), r_tnn (show y' < 2147483648 by omega), ew2, eh2, ev2]
                  have m1 := may_and (n := 0) hf5 hs' w' (by omega)
                  have m2 := may_and (n := 0) hf13 hs' v' (by omega)
                  have m3 := may_aw (s := s') (b := twAw d) h'
                  rw [if_pos]
                  intro z
                  obtain ⟨z1, z2, z3⟩ := z
                  simp_all
                rw [e] at k
                exact k _ (r_fx.sI rfl r_fx.rf) r_sI_s
              · refine Ru_aload_n (pc := 88) dX11_night_88 rfl rfl ?_
                refine Ru_iload_n (pc := 89) dX11_night_89 rfl rfl ?_
                refine Ru_iload (pc := 90) dX11_night_90 rfl ?_
                refine Ru_cv2 (pc := 92) dX11_night_92 mv_X11_263 rfl (by decide) (Nat.le_of_ble_eq_true rfl) (c_X11_isAmong (s := s') h' (by omega) (by omega) ?_) 
                refine Ru_if_eqB (pc := 95) 116 dX11_night_95 (by decide) (fun h11 => ?_) (fun h11 => ?_)
                · refine Ru_aload_n (pc := 116) dX11_night_116 rfl rfl ?_
                  refine Ru_bipush (pc := 117) (nI 9) dX11_night_117 rfl ?_
                  refine Ru_cv1 (pc := 119) dX11_night_119 mv_X11_112 rfl (by decide) (Nat.le_of_ble_eq_true rfl) (c_X11_fail ?_) 
                  refine Ru_iret (pc := 122) dX11_night_122 rfl ⟨Nat.le_refl _, Nat.le_refl _⟩ ?_
                  have e : g_night d (nI s') (nM w') (nM h') (nM v') (nI y') = (-1, 9) := by
                    unfold g_night
                    rw [if_neg (by omega), if_neg (by omega), r_tnn (show s' < 2147483648 by omega), r_tnn (show y' < 2147483648 by omega), ew2, eh2, ev2]
                    have m1 := may_and (n := 0) hf5 hs' w' (by omega)
                    have m2 := may_and (n := 0) hf13 hs' v' (by omega)
                    have m3 := may_aw (s := s') (b := twAw d) h'
                    rw [if_pos]
                    intro z
                    obtain ⟨z1, z2, z3⟩ := z
                    simp_all
                  rw [e] at k
                  exact k _ (r_fx.sI rfl r_fx.rf) r_sI_s
                · refine Ru_aload_n (pc := 98) dX11_night_98 rfl rfl ?_
                  refine Ru_iload (pc := 99) dX11_night_99 rfl ?_
                  refine Ru_iload_n (pc := 101) dX11_night_101 rfl rfl ?_
                  refine Ru_aload_n (pc := 102) dX11_night_102 rfl rfl ?_
                  refine Ru_cv0 (pc := 103) dX11_night_103 mv_X11_154 rfl (by decide) (Nat.le_of_ble_eq_true rfl) (c_X11_now hu ?_) 
                  refine Ru_getI (pc := 106) dX11_night_106 fl_X11_220 (shTown_0 ht) rfl ?_
                  refine Ru_top hx.2.1.2.1 ?_
                  refine Ru_iandN (pc := 109) dX11_night_109 ?_
                  refine Ru_cv2 (pc := 110) dX11_night_110 mv_X11_263 rfl (by decide) (Nat.le_of_ble_eq_true rfl) (c_X11_isAmong (s := (s' &&& (bt (fun i => d (13 + i)) 8))) v' (Nat.lt_of_le_of_lt Nat.and_le_left (by omega)) (by omega) ?_) 
                  refine Ru_if_neB (pc := 113) 123 dX11_night_113 (by decide) (fun h12 => ?_) (fun h12 => ?_)
                  · refine Ru_aload_n (pc := 123) dX11_night_123 rfl rfl ?_
                    refine Ru_getR (pc := 124) 46 dX11_night_124 fl_X11_54 rfl rfl (rfX_of (o := 0) (j := 46) rfl rfl) ?_
                    refine Ru_aload_n (pc := 127) dX11_night_127 rfl rfl ?_
                    refine Ru_cv0 (pc := 128) dX11_night_128 mv_X11_154 rfl (by decide) (Nat.le_of_ble_eq_true rfl) (c_X11_now hu ?_) 
                    refine Ru_iload_n (pc := 131) dX11_night_131 rfl rfl ?_
                    refine Ru_iload (pc := 132) dX11_night_132 rfl ?_
                    refine Ru_bipush (pc := 134) (nI 7) dX11_night_134 rfl ?_
                    refine Ru_iremN (pc := 136) dX11_night_136 (by omega) ?_
                    refine Ru_cv3 (pc := 137) dX11_night_137 mv_X11_266 rfl (by decide) (Nat.le_of_ble_eq_true rfl) (c_X4_look hu hx hlw wf hwl (s := s') (r := y' % 7) (by omega) (by omega) (fun M2 h47 hth hpl fx2 => ?_)) 
                    refine Ru_aload_n (pc := 140) dX11_night_140 rfl rfl ?_
                    refine Ru_aload_n (pc := 141) dX11_night_141 rfl rfl ?_
                    refine Ru_getR (pc := 142) 46 dX11_night_142 fl_X11_54 rfl rfl (rfX_of (o := 0) (j := 46) rfl rfl) ?_
                    refine Ru_iload_n (pc := 145) dX11_night_145 rfl rfl ?_
                    refine Ru_iload_n (pc := 146) dX11_night_146 rfl rfl ?_
                    refine Ru_iload (pc := 147) dX11_night_147 rfl ?_
                    refine Ru_cv3 (pc := 149) dX11_night_149 mv_X11_270 rfl (by decide) (Nat.le_of_ble_eq_true rfl) (c_X4_left (s := s') (r := y' % 7) hb.1 h47 hth hpl ⟨by omega, by omega, by omega⟩ ?_) 
                    refine Ru_cv1 (pc := 152) dX11_night_152 mv_X11_170 rfl (by decide) (Nat.le_of_ble_eq_true rfl) (c_X11_tell ?_) 
                    refine Ru_iret (pc := 155) dX11_night_155 rfl ⟨Nat.le_refl _, Nat.le_refl _⟩ ?_
                    have e : g_night d (nI s') (nM w') (nM h') (nM v') (nI y') = ((nI (stA d 0 s' (y' % 7) w' h' v')), 0) := by
                      unfold g_night
                      rw [if_neg (by omega), if_neg (by omega), r_tnn (show s' < 2147483648 by omega), r_tnn (show y' < 2147483648 by omega), ew2, eh2, ev2]
                      have m1 := may_and (n := 0) hf5 hs' w' (by omega)
                      have m2 := may_and (n := 0) hf13 hs' v' (by omega)
                      have m3 := may_aw (s := s') (b := twAw d) h'
                      rw [if_neg]
                      intro z
                      apply z
                      refine ⟨?_, ?_, ?_⟩
                      · rw [← m1]; assumption
                      · rw [← m3]; simp_all
                      · rw [← m2]; assumption
                    rw [e] at k
                    exact k _ (r_fx.sI rfl (fx2.mono rfl)) r_sI_s
                  · refine Ru_aload_n (pc := 116) dX11_night_116 rfl rfl ?_
                    refine Ru_bipush (pc := 117) (nI 9) dX11_night_117 rfl ?_
                    refine Ru_cv1 (pc := 119) dX11_night_119 mv_X11_112 rfl (by decide) (Nat.le_of_ble_eq_true rfl) (c_X11_fail ?_) 
                    refine Ru_iret (pc := 122) dX11_night_122 rfl ⟨Nat.le_refl _, Nat.le_refl _⟩ ?_
                    have e : g_night d (nI s') (nM w') (nM h') (nM v') (nI y') = (-1, 9) := by
                      unfold g_night
                      rw [if_neg (by omega), if_neg (by omega), r_tnn (show s' < 2147483648 by omega), r_tnn (show y' < 2147483648 by omega), ew2, eh2, ev2]
                      have m1 := may_and (n := 0) hf5 hs' w' (by omega)
                      have m2 := may_and (n := 0) hf13 hs' v' (by omega)
                      have m3 := may_aw (s := s') (b := twAw d) h'
                      rw [if_pos]
                      intro z
                      obtain ⟨z1, z2, z3⟩ := z
                      simp_all
                    rw [e] at k
                    exact k _ (r_fx.sI rfl r_fx.rf) r_sI_s
          · replace h5 := of_decide_eq_false h5
            refine Ru_aload_n (pc := 48) dX11_night_48 rfl rfl ?_
            refine Ru_iconst (pc := 49) (nI 5) dX11_night_49 rfl ?_
            refine Ru_cv1 (pc := 50) dX11_night_50 mv_X11_112 rfl (by decide) (Nat.le_of_ble_eq_true rfl) (c_X11_fail ?_) 
            refine Ru_iret (pc := 53) dX11_night_53 rfl ⟨Nat.le_refl _, Nat.le_refl _⟩ ?_
            have e : g_night d s w h v y = (-1, 5) := by
              unfold g_night
              rw [if_neg (by omega), if_pos (by omega)]
            rw [e] at k
            exact k _ (r_fx.sI rfl r_fx.rf) r_sI_s
        · replace h4 := of_decide_eq_false h4
          refine Ru_aload_n (pc := 33) dX11_night_33 rfl rfl ?_
          refine Ru_iconst (pc := 34) (nI 2) dX11_night_34 rfl ?_
          refine Ru_cv1 (pc := 35) dX11_night_35 mv_X11_112 rfl (by decide) (Nat.le_of_ble_eq_true rfl) (c_X11_fail ?_) 
          refine Ru_iret (pc := 38) dX11_night_38 rfl ⟨Nat.le_refl _, Nat.le_refl _⟩ ?_
          have e : g_night d s w h v y = (-1, 2) := by
            unfold g_night
            rw [if_pos (by omega)]
          rw [e] at k
          exact k _ (r_fx.sI rfl r_fx.rf) r_sI_s
