-- ELEMENTS, ARRAYS: the class
theorem k8_le : ∀ k, k < 8 → (nI k ≤ (0 : Int32) ↔ k = 0) := by decide
theorem em_w4 {M : xM} {w so m : Nat} {l : List Int32} (hw : so + 1 < w) (hf : mI M w 4 = nI m) : mI (emM M so 1 (so + 1) l) w 4 = nI m := (congrFun (emM_I M l (show w ≠ so by omega) (show w ≠ so + 1 by omega)) 4).trans hf
theorem sp_wp {d : Nat} (hd : 5 ≤ d) {M : xM} {w rw so m : Nat} {l : List Int32} (hm : m < 3) (hw : so + 1 < w) (hf : mI M w 4 = nI m) {r : Nat} (k z : Nat) (V : Nat → Int64) (hk8 : k < 8) (hW : WrAt M w rw so) (hR : RowAt M r) (hr : so + 1 < r) (hk : mI M r 0 = nI k) (hz : mI M r 1 = nI z) (hz2 : z ≤ 12) (hV : ∀ i, i < z → mL M (r + 2) i = V i) (hl : l.length + 122 ≤ 1464) : Sp (fX4_writePrimitive d) [.ref w, .ref r] (emM M so 1 (so + 1) l) (dt none (emM M so 1 (so + 1) (l ++ prB m k z V))) := by
  refine Sp.of pn_X4 (Nat.le_of_ble_eq_true rfl) (fun h => Bool.noConfusion h) ?_
  have hcs : (m = 0) ∨ (m = 1) ∨ (m = 2 ∧ 0 < k ∧ k < 6) ∨ (m = 2 ∧ k = 0) ∨ (m = 2 ∧ 6 ≤ k) := by omega
  rcases hcs with h | h | h | h | h
  · subst h
    have ef : foP 0 k = 0 := if_neg (by omega)
    have e : prB 0 k z V = [nI (16 * (0 + 1) + k), nI z] ++ flB k V z 0 := by unfold prB; rw [ef]; rfl
    rw [e, ← List.append_assoc]
    refine aw_aload_n dX4_writePrimitive_0 1 rfl ?_
    refine aw_getI dX4_writePrimitive_1 fl_X4_45 ((sT_emM M so 1 (so + 1) l).row hR).1 ((sT_emM M so 1 (so + 1) l).row hR).n0 ?_
    refine aw_topE ((congrFun (emM_I M l (show r ≠ so by omega) (show r ≠ so + 1 by omega)) 0).trans hk) ?_
    refine aw_if_le 19 dX4_writePrimitive_4 (by decide) (fun c1 => ?_) (fun c1 => ?_)
    · refine aw_iconst (v := 0) dX4_writePrimitive_19 (by decide) ?_
      refine aw_istore_n [(2, .int 0), (0, .ref w), (1, .ref r)] dX4_writePrimitive_20 (Nat.le_of_ble_eq_true rfl) rfl ?_
      refine aw_aload_n dX4_writePrimitive_21 1 rfl ?_
      refine aw_getI dX4_writePrimitive_22 fl_X4_19 ((sT_emM M so 1 (so + 1) l).wr hW).1 ((sT_emM M so 1 (so + 1) l).wr hW).2.1 ?_
      refine aw_topE (em_w4 hw hf) ?_
      refine aw_iconst (v := 2) dX4_writePrimitive_25 (by decide) ?_
      refine aw_icmp_neN 0 2 37 dX4_writePrimitive_26 (by decide) rfl rfl (by omega) (by omega) (fun c2 => ?_) (fun c2 => absurd c2 (by decide))
      refine aw_aload_n dX4_writePrimitive_37 1 rfl ?_
      refine aw_getI dX4_writePrimitive_38 fl_X4_19 ((sT_emM M so 1 (so + 1) l).wr hW).1 ((sT_emM M so 1 (so + 1) l).wr hW).2.1 ?_
      refine aw_topE (em_w4 hw hf) ?_
      refine aw_istore_n [(3, .int (nI 0)), (2, .int 0), (0, .ref w), (1, .ref r)] dX4_writePrimitive_41 (Nat.le_of_ble_eq_true rfl) rfl ?_
      refine aw_aload_n dX4_writePrimitive_42 2 rfl ?_
      refine aw_iload_n dX4_writePrimitive_43 0 rfl ?_
      refine aw_aload_n dX4_writePrimitive_44 3 rfl ?_
      refine aw_callVv [.int (nI 0), .ref r] [] (sp_wh (d := d - 1) (by omega) (l := l) 0 k z hW hR hr hk hz (by omega)) dX4_writePrimitive_45 ml_X4_69 im_X4_writeHead ((sT_emM M so 1 (so + 1) l).wr hW).1 ((sT_emM M so 1 (so + 1) l).wr hW).2.1 rfl rfl (dl1 (d := d) (by omega)) rfl rfl (Nat.le_of_ble_eq_true rfl) rfl rfl (Nat.zero_le _) (Nat.zero_le _) ?_
      refine aw_iload_n dX4_writePrimitive_48 0 rfl ?_
      refine aw_iconst (v := 1) dX4_writePrimitive_49 (by decide) ?_
      refine aw_icmp_neN 0 1 61 dX4_writePrimitive_50 (by decide) rfl rfl (by omega) (by omega) (fun c3 => ?_) (fun c3 => absurd c3 (by decide))
      refine aw_iload_n dX4_writePrimitive_61 0 rfl ?_
      refine aw_iconst (v := 2) dX4_writePrimitive_62 (by decide) ?_
      refine aw_icmp_neN 0 2 74 dX4_writePrimitive_63 (by decide) rfl rfl (by omega) (by omega) (fun c4 => ?_) (fun c4 => absurd c4 (by decide))
      refine aw_aload_n dX4_writePrimitive_74 2 rfl ?_
      refine aw_aload_n dX4_writePrimitive_75 3 rfl ?_
      refine aw_callVv [.ref r] [] (sp_wf (d := d - 1) (by omega) (l := l ++ [nI (16 * (0 + 1) + k), nI z]) k z V hk8 hW hR hr hk hz hz2 hV (by first | omega | (simp only [List.length_append, List.length_cons, List.length_nil, byB_len] at *; omega))) dX4_writePrimitive_76 ml_X4_102 im_X4_writeFlat ((sT_emM M so 1 (so + 1) (l ++ [nI (16 * (0 + 1) + k), nI z])).wr hW).1 ((sT_emM M so 1 (so + 1) (l ++ [nI (16 * (0 + 1) + k), nI z])).wr hW).2.1 rfl rfl (dl1 (d := d) (by omega)) rfl rfl (Nat.le_of_ble_eq_true rfl) rfl rfl (Nat.zero_le _) (Nat.zero_le _) ?_
      refine aw_ret dX4_writePrimitive_79 rfl (Nat.zero_le _) (Nat.zero_le _) ?_
      exact ⟨rfl, rfl⟩
    · refine aw_aload_n dX4_writePrimitive_7 1 rfl ?_
      refine aw_getI dX4_writePrimitive_8 fl_X4_45 ((sT_emM M so 1 (so + 1) l).row hR).1 ((sT_emM M so 1 (so + 1) l).row hR).n0 ?_
      refine aw_topE ((congrFun (emM_I M l (show r ≠ so by omega) (show r ≠ so + 1 by omega)) 0).trans hk) ?_
      refine aw_iconst (v := 5) dX4_writePrimitive_11 (by decide) ?_
      refine aw_icmp_gtN k 5 19 dX4_writePrimitive_12 (by decide) rfl rfl (by omega) (by omega) (fun c5 => ?_) (fun c5 => ?_)
      · refine aw_iconst (v := 0) dX4_writePrimitive_19 (by decide) ?_
        refine aw_istore_n [(2, .int 0), (0, .ref w), (1, .ref r)] dX4_writePrimitive_20 (Nat.le_of_ble_eq_true rfl) rfl ?_
        refine aw_aload_n dX4_writePrimitive_21 1 rfl ?_
        refine aw_getI dX4_writePrimitive_22 fl_X4_19 ((sT_emM M so 1 (so + 1) l).wr hW).1 ((sT_emM M so 1 (so + 1) l).wr hW).2.1 ?_
        refine aw_topE (em_w4 hw hf) ?_
        refine aw_iconst (v := 2) dX4_writePrimitive_25 (by decide) ?_
        refine aw_icmp_neN 0 2 37 dX4_writePrimitive_26 (by decide) rfl rfl (by omega) (by omega) (fun c6 => ?_) (fun c6 => absurd c6 (by decide))
        refine aw_aload_n dX4_writePrimitive_37 1 rfl ?_
        refine aw_getI dX4_writePrimitive_38 fl_X4_19 ((sT_emM M so 1 (so + 1) l).wr hW).1 ((sT_emM M so 1 (so + 1) l).wr hW).2.1 ?_
        refine aw_topE (em_w4 hw hf) ?_
        refine aw_istore_n [(3, .int (nI 0)), (2, .int 0), (0, .ref w), (1, .ref r)] dX4_writePrimitive_41 (Nat.le_of_ble_eq_true rfl) rfl ?_
        refine aw_aload_n dX4_writePrimitive_42 2 rfl ?_
        refine aw_iload_n dX4_writePrimitive_43 0 rfl ?_
        refine aw_aload_n dX4_writePrimitive_44 3 rfl ?_
        refine aw_callVv [.int (nI 0), .ref r] [] (sp_wh (d := d - 1) (by omega) (l := l) 0 k z hW hR hr hk hz (by omega)) dX4_writePrimitive_45 ml_X4_69 im_X4_writeHead ((sT_emM M so 1 (so + 1) l).wr hW).1 ((sT_emM M so 1 (so + 1) l).wr hW).2.1 rfl rfl (dl1 (d := d) (by omega)) rfl rfl (Nat.le_of_ble_eq_true rfl) rfl rfl (Nat.zero_le _) (Nat.zero_le _) ?_
        refine aw_iload_n dX4_writePrimitive_48 0 rfl ?_
        refine aw_iconst (v := 1) dX4_writePrimitive_49 (by decide) ?_
        refine aw_icmp_neN 0 1 61 dX4_writePrimitive_50 (by decide) rfl rfl (by omega) (by omega) (fun c7 => ?_) (fun c7 => absurd c7 (by decide))
        refine aw_iload_n dX4_writePrimitive_61 0 rfl ?_
        refine aw_iconst (v := 2) dX4_writePrimitive_62 (by decide) ?_
        refine aw_icmp_neN 0 2 74 dX4_writePrimitive_63 (by decide) rfl rfl (by omega) (by omega) (fun c8 => ?_) (fun c8 => absurd c8 (by decide))
        refine aw_aload_n dX4_writePrimitive_74 2 rfl ?_
        refine aw_aload_n dX4_writePrimitive_75 3 rfl ?_
        refine aw_callVv [.ref r] [] (sp_wf (d := d - 1) (by omega) (l := l ++ [nI (16 * (0 + 1) + k), nI z]) k z V hk8 hW hR hr hk hz hz2 hV (by first | omega | (simp only [List.length_append, List.length_cons, List.length_nil, byB_len] at *; omega))) dX4_writePrimitive_76 ml_X4_102 im_X4_writeFlat ((sT_emM M so 1 (so + 1) (l ++ [nI (16 * (0 + 1) + k), nI z])).wr hW).1 ((sT_emM M so 1 (so + 1) (l ++ [nI (16 * (0 + 1) + k), nI z])).wr hW).2.1 rfl rfl (dl1 (d := d) (by omega)) rfl rfl (Nat.le_of_ble_eq_true rfl) rfl rfl (Nat.zero_le _) (Nat.zero_le _) ?_
        refine aw_ret dX4_writePrimitive_79 rfl (Nat.zero_le _) (Nat.zero_le _) ?_
        exact ⟨rfl, rfl⟩
      · refine aw_iconst (v := 1) dX4_writePrimitive_15 (by decide) ?_
        refine aw_goto 20 dX4_writePrimitive_16 (by decide) ?_
        refine aw_istore_n [(2, .int 1), (0, .ref w), (1, .ref r)] dX4_writePrimitive_20 (Nat.le_of_ble_eq_true rfl) rfl ?_
        refine aw_aload_n dX4_writePrimitive_21 1 rfl ?_
        refine aw_getI dX4_writePrimitive_22 fl_X4_19 ((sT_emM M so 1 (so + 1) l).wr hW).1 ((sT_emM M so 1 (so + 1) l).wr hW).2.1 ?_
        refine aw_topE (em_w4 hw hf) ?_
        refine aw_iconst (v := 2) dX4_writePrimitive_25 (by decide) ?_
        refine aw_icmp_neN 0 2 37 dX4_writePrimitive_26 (by decide) rfl rfl (by omega) (by omega) (fun c9 => ?_) (fun c9 => absurd c9 (by decide))
        refine aw_aload_n dX4_writePrimitive_37 1 rfl ?_
        refine aw_getI dX4_writePrimitive_38 fl_X4_19 ((sT_emM M so 1 (so + 1) l).wr hW).1 ((sT_emM M so 1 (so + 1) l).wr hW).2.1 ?_
        refine aw_topE (em_w4 hw hf) ?_
        refine aw_istore_n [(3, .int (nI 0)), (2, .int 1), (0, .ref w), (1, .ref r)] dX4_writePrimitive_41 (Nat.le_of_ble_eq_true rfl) rfl ?_
        refine aw_aload_n dX4_writePrimitive_42 2 rfl ?_
        refine aw_iload_n dX4_writePrimitive_43 0 rfl ?_
        refine aw_aload_n dX4_writePrimitive_44 3 rfl ?_
        refine aw_callVv [.int (nI 0), .ref r] [] (sp_wh (d := d - 1) (by omega) (l := l) 0 k z hW hR hr hk hz (by omega)) dX4_writePrimitive_45 ml_X4_69 im_X4_writeHead ((sT_emM M so 1 (so + 1) l).wr hW).1 ((sT_emM M so 1 (so + 1) l).wr hW).2.1 rfl rfl (dl1 (d := d) (by omega)) rfl rfl (Nat.le_of_ble_eq_true rfl) rfl rfl (Nat.zero_le _) (Nat.zero_le _) ?_
        refine aw_iload_n dX4_writePrimitive_48 0 rfl ?_
        refine aw_iconst (v := 1) dX4_writePrimitive_49 (by decide) ?_
        refine aw_icmp_neN 0 1 61 dX4_writePrimitive_50 (by decide) rfl rfl (by omega) (by omega) (fun c10 => ?_) (fun c10 => absurd c10 (by decide))
        refine aw_iload_n dX4_writePrimitive_61 0 rfl ?_
        refine aw_iconst (v := 2) dX4_writePrimitive_62 (by decide) ?_
        refine aw_icmp_neN 0 2 74 dX4_writePrimitive_63 (by decide) rfl rfl (by omega) (by omega) (fun c11 => ?_) (fun c11 => absurd c11 (by decide))
        refine aw_aload_n dX4_writePrimitive_74 2 rfl ?_
        refine aw_aload_n dX4_writePrimitive_75 3 rfl ?_
        refine aw_callVv [.ref r] [] (sp_wf (d := d - 1) (by omega) (l := l ++ [nI (16 * (0 + 1) + k), nI z]) k z V hk8 hW hR hr hk hz hz2 hV (by first | omega | (simp only [List.length_append, List.length_cons, List.length_nil, byB_len] at *; omega))) dX4_writePrimitive_76 ml_X4_102 im_X4_writeFlat ((sT_emM M so 1 (so + 1) (l ++ [nI (16 * (0 + 1) + k), nI z])).wr hW).1 ((sT_emM M so 1 (so + 1) (l ++ [nI (16 * (0 + 1) + k), nI z])).wr hW).2.1 rfl rfl (dl1 (d := d) (by omega)) rfl rfl (Nat.le_of_ble_eq_true rfl) rfl rfl (Nat.zero_le _) (Nat.zero_le _) ?_
        refine aw_ret dX4_writePrimitive_79 rfl (Nat.zero_le _) (Nat.zero_le _) ?_
        exact ⟨rfl, rfl⟩
  · subst h
    have ef : foP 1 k = 1 := if_neg (by omega)
    have e : prB 1 k z V = [nI (16 * (1 + 1) + k), nI z] ++ ruB k V z z 1 0 := by unfold prB; rw [ef]; rfl
    rw [e, ← List.append_assoc]
    refine aw_aload_n dX4_writePrimitive_0 1 rfl ?_
    refine aw_getI dX4_writePrimitive_1 fl_X4_45 ((sT_emM M so 1 (so + 1) l).row hR).1 ((sT_emM M so 1 (so + 1) l).row hR).n0 ?_
    refine aw_topE ((congrFun (emM_I M l (show r ≠ so by omega) (show r ≠ so + 1 by omega)) 0).trans hk) ?_
    refine aw_if_le 19 dX4_writePrimitive_4 (by decide) (fun c1 => ?_) (fun c1 => ?_)
    · refine aw_iconst (v := 0) dX4_writePrimitive_19 (by decide) ?_
      refine aw_istore_n [(2, .int 0), (0, .ref w), (1, .ref r)] dX4_writePrimitive_20 (Nat.le_of_ble_eq_true rfl) rfl ?_
      refine aw_aload_n dX4_writePrimitive_21 1 rfl ?_
      refine aw_getI dX4_writePrimitive_22 fl_X4_19 ((sT_emM M so 1 (so + 1) l).wr hW).1 ((sT_emM M so 1 (so + 1) l).wr hW).2.1 ?_
      refine aw_topE (em_w4 hw hf) ?_
      refine aw_iconst (v := 2) dX4_writePrimitive_25 (by decide) ?_
      refine aw_icmp_neN 1 2 37 dX4_writePrimitive_26 (by decide) rfl rfl (by omega) (by omega) (fun c2 => ?_) (fun c2 => absurd c2 (by decide))
      refine aw_aload_n dX4_writePrimitive_37 1 rfl ?_
      refine aw_getI dX4_writePrimitive_38 fl_X4_19 ((sT_emM M so 1 (so + 1) l).wr hW).1 ((sT_emM M so 1 (so + 1) l).wr hW).2.1 ?_
      refine aw_topE (em_w4 hw hf) ?_
      refine aw_istore_n [(3, .int (nI 1)), (2, .int 0), (0, .ref w), (1, .ref r)] dX4_writePrimitive_41 (Nat.le_of_ble_eq_true rfl) rfl ?_
      refine aw_aload_n dX4_writePrimitive_42 2 rfl ?_
      refine aw_iload_n dX4_writePrimitive_43 0 rfl ?_
      refine aw_aload_n dX4_writePrimitive_44 3 rfl ?_
      refine aw_callVv [.int (nI 1), .ref r] [] (sp_wh (d := d - 1) (by omega) (l := l) 1 k z hW hR hr hk hz (by omega)) dX4_writePrimitive_45 ml_X4_69 im_X4_writeHead ((sT_emM M so 1 (so + 1) l).wr hW).1 ((sT_emM M so 1 (so + 1) l).wr hW).2.1 rfl rfl (dl1 (d := d) (by omega)) rfl rfl (Nat.le_of_ble_eq_true rfl) rfl rfl (Nat.zero_le _) (Nat.zero_le _) ?_
      refine aw_iload_n dX4_writePrimitive_48 0 rfl ?_
      refine aw_iconst (v := 1) dX4_writePrimitive_49 (by decide) ?_
      refine aw_icmp_neN 1 1 61 dX4_writePrimitive_50 (by decide) rfl rfl (by omega) (by omega) (fun c3 => absurd rfl c3) (fun c3 => ?_)
      refine aw_aload_n dX4_writePrimitive_53 2 rfl ?_
      refine aw_aload_n dX4_writePrimitive_54 3 rfl ?_
      refine aw_callVv [.ref r] [] (sp_ru (d := d - 1) (by omega) (l := l ++ [nI (16 * (1 + 1) + k), nI z]) k z V hk8 hW hR hr hk hz hz2 hV (by first | omega | (simp only [List.length_append, List.length_cons, List.length_nil, byB_len] at *; omega))) dX4_writePrimitive_55 ml_X4_96 im_X4_writeRuns ((sT_emM M so 1 (so + 1) (l ++ [nI (16 * (1 + 1) + k), nI z])).wr hW).1 ((sT_emM M so 1 (so + 1) (l ++ [nI (16 * (1 + 1) + k), nI z])).wr hW).2.1 rfl rfl (dl1 (d := d) (by omega)) rfl rfl (Nat.le_of_ble_eq_true rfl) rfl rfl (Nat.zero_le _) (Nat.zero_le _) ?_
      refine aw_goto 79 dX4_writePrimitive_58 (by decide) ?_
      refine aw_ret dX4_writePrimitive_79 rfl (Nat.zero_le _) (Nat.zero_le _) ?_
      exact ⟨rfl, rfl⟩
    · refine aw_aload_n dX4_writePrimitive_7 1 rfl ?_
      refine aw_getI dX4_writePrimitive_8 fl_X4_45 ((sT_emM M so 1 (so + 1) l).row hR).1 ((sT_emM M so 1 (so + 1) l).row hR).n0 ?_
      refine aw_topE ((congrFun (emM_I M l (show r ≠ so by omega) (show r ≠ so + 1 by omega)) 0).trans hk) ?_
      refine aw_iconst (v := 5) dX4_writePrimitive_11 (by decide) ?_
      refine aw_icmp_gtN k 5 19 dX4_writePrimitive_12 (by decide) rfl rfl (by omega) (by omega) (fun c4 => ?_) (fun c4 => ?_)
      · refine aw_iconst (v := 0) dX4_writePrimitive_19 (by decide) ?_
        refine aw_istore_n [(2, .int 0), (0, .ref w), (1, .ref r)] dX4_writePrimitive_20 (Nat.le_of_ble_eq_true rfl) rfl ?_
        refine aw_aload_n dX4_writePrimitive_21 1 rfl ?_
        refine aw_getI dX4_writePrimitive_22 fl_X4_19 ((sT_emM M so 1 (so + 1) l).wr hW).1 ((sT_emM M so 1 (so + 1) l).wr hW).2.1 ?_
        refine aw_topE (em_w4 hw hf) ?_
        refine aw_iconst (v := 2) dX4_writePrimitive_25 (by decide) ?_
        refine aw_icmp_neN 1 2 37 dX4_writePrimitive_26 (by decide) rfl rfl (by omega) (by omega) (fun c5 => ?_) (fun c5 => absurd c5 (by decide))
        refine aw_aload_n dX4_writePrimitive_37 1 rfl ?_
        refine aw_getI dX4_writePrimitive_38 fl_X4_19 ((sT_emM M so 1 (so + 1) l).wr hW).1 ((sT_emM M so 1 (so + 1) l).wr hW).2.1 ?_
        refine aw_topE (em_w4 hw hf) ?_
        refine aw_istore_n [(3, .int (nI 1)), (2, .int 0), (0, .ref w), (1, .ref r)] dX4_writePrimitive_41 (Nat.le_of_ble_eq_true rfl) rfl ?_
        refine aw_aload_n dX4_writePrimitive_42 2 rfl ?_
        refine aw_iload_n dX4_writePrimitive_43 0 rfl ?_
        refine aw_aload_n dX4_writePrimitive_44 3 rfl ?_
        refine aw_callVv [.int (nI 1), .ref r] [] (sp_wh (d := d - 1) (by omega) (l := l) 1 k z hW hR hr hk hz (by omega)) dX4_writePrimitive_45 ml_X4_69 im_X4_writeHead ((sT_emM M so 1 (so + 1) l).wr hW).1 ((sT_emM M so 1 (so + 1) l).wr hW).2.1 rfl rfl (dl1 (d := d) (by omega)) rfl rfl (Nat.le_of_ble_eq_true rfl) rfl rfl (Nat.zero_le _) (Nat.zero_le _) ?_
        refine aw_iload_n dX4_writePrimitive_48 0 rfl ?_
        refine aw_iconst (v := 1) dX4_writePrimitive_49 (by decide) ?_
        refine aw_icmp_neN 1 1 61 dX4_writePrimitive_50 (by decide) rfl rfl (by omega) (by omega) (fun c6 => absurd rfl c6) (fun c6 => ?_)
        refine aw_aload_n dX4_writePrimitive_53 2 rfl ?_
        refine aw_aload_n dX4_writePrimitive_54 3 rfl ?_
        refine aw_callVv [.ref r] [] (sp_ru (d := d - 1) (by omega) (l := l ++ [nI (16 * (1 + 1) + k), nI z]) k z V hk8 hW hR hr hk hz hz2 hV (by first | omega | (simp only [List.length_append, List.length_cons, List.length_nil, byB_len] at *; omega))) dX4_writePrimitive_55 ml_X4_96 im_X4_writeRuns ((sT_emM M so 1 (so + 1) (l ++ [nI (16 * (1 + 1) + k), nI z])).wr hW).1 ((sT_emM M so 1 (so + 1) (l ++ [nI (16 * (1 + 1) + k), nI z])).wr hW).2.1 rfl rfl (dl1 (d := d) (by omega)) rfl rfl (Nat.le_of_ble_eq_true rfl) rfl rfl (Nat.zero_le _) (Nat.zero_le _) ?_
        refine aw_goto 79 dX4_writePrimitive_58 (by decide) ?_
        refine aw_ret dX4_writePrimitive_79 rfl (Nat.zero_le _) (Nat.zero_le _) ?_
        exact ⟨rfl, rfl⟩
      · refine aw_iconst (v := 1) dX4_writePrimitive_15 (by decide) ?_
        refine aw_goto 20 dX4_writePrimitive_16 (by decide) ?_
        refine aw_istore_n [(2, .int 1), (0, .ref w), (1, .ref r)] dX4_writePrimitive_20 (Nat.le_of_ble_eq_true rfl) rfl ?_
        refine aw_aload_n dX4_writePrimitive_21 1 rfl ?_
        refine aw_getI dX4_writePrimitive_22 fl_X4_19 ((sT_emM M so 1 (so + 1) l).wr hW).1 ((sT_emM M so 1 (so + 1) l).wr hW).2.1 ?_
        refine aw_topE (em_w4 hw hf) ?_
        refine aw_iconst (v := 2) dX4_writePrimitive_25 (by decide) ?_
        refine aw_icmp_neN 1 2 37 dX4_writePrimitive_26 (by decide) rfl rfl (by omega) (by omega) (fun c7 => ?_) (fun c7 => absurd c7 (by decide))
        refine aw_aload_n dX4_writePrimitive_37 1 rfl ?_
        refine aw_getI dX4_writePrimitive_38 fl_X4_19 ((sT_emM M so 1 (so + 1) l).wr hW).1 ((sT_emM M so 1 (so + 1) l).wr hW).2.1 ?_
        refine aw_topE (em_w4 hw hf) ?_
        refine aw_istore_n [(3, .int (nI 1)), (2, .int 1), (0, .ref w), (1, .ref r)] dX4_writePrimitive_41 (Nat.le_of_ble_eq_true rfl) rfl ?_
        refine aw_aload_n dX4_writePrimitive_42 2 rfl ?_
        refine aw_iload_n dX4_writePrimitive_43 0 rfl ?_
        refine aw_aload_n dX4_writePrimitive_44 3 rfl ?_
        refine aw_callVv [.int (nI 1), .ref r] [] (sp_wh (d := d - 1) (by omega) (l := l) 1 k z hW hR hr hk hz (by omega)) dX4_writePrimitive_45 ml_X4_69 im_X4_writeHead ((sT_emM M so 1 (so + 1) l).wr hW).1 ((sT_emM M so 1 (so + 1) l).wr hW).2.1 rfl rfl (dl1 (d := d) (by omega)) rfl rfl (Nat.le_of_ble_eq_true rfl) rfl rfl (Nat.zero_le _) (Nat.zero_le _) ?_
        refine aw_iload_n dX4_writePrimitive_48 0 rfl ?_
        refine aw_iconst (v := 1) dX4_writePrimitive_49 (by decide) ?_
        refine aw_icmp_neN 1 1 61 dX4_writePrimitive_50 (by decide) rfl rfl (by omega) (by omega) (fun c8 => absurd rfl c8) (fun c8 => ?_)
        refine aw_aload_n dX4_writePrimitive_53 2 rfl ?_
        refine aw_aload_n dX4_writePrimitive_54 3 rfl ?_
        refine aw_callVv [.ref r] [] (sp_ru (d := d - 1) (by omega) (l := l ++ [nI (16 * (1 + 1) + k), nI z]) k z V hk8 hW hR hr hk hz hz2 hV (by first | omega | (simp only [List.length_append, List.length_cons, List.length_nil, byB_len] at *; omega))) dX4_writePrimitive_55 ml_X4_96 im_X4_writeRuns ((sT_emM M so 1 (so + 1) (l ++ [nI (16 * (1 + 1) + k), nI z])).wr hW).1 ((sT_emM M so 1 (so + 1) (l ++ [nI (16 * (1 + 1) + k), nI z])).wr hW).2.1 rfl rfl (dl1 (d := d) (by omega)) rfl rfl (Nat.le_of_ble_eq_true rfl) rfl rfl (Nat.zero_le _) (Nat.zero_le _) ?_
        refine aw_goto 79 dX4_writePrimitive_58 (by decide) ?_
        refine aw_ret dX4_writePrimitive_79 rfl (Nat.zero_le _) (Nat.zero_le _) ?_
        exact ⟨rfl, rfl⟩
  · obtain ⟨rfl, h⟩ := h
    have ef : foP 2 k = 2 := (if_neg (by omega))
    have e : prB 2 k z V = [nI (16 * (2 + 1) + k), nI z] ++ ssB V z 0 0 := by unfold prB; rw [ef]; rfl
    rw [e, ← List.append_assoc]
    refine aw_aload_n dX4_writePrimitive_0 1 rfl ?_
    refine aw_getI dX4_writePrimitive_1 fl_X4_45 ((sT_emM M so 1 (so + 1) l).row hR).1 ((sT_emM M so 1 (so + 1) l).row hR).n0 ?_
    refine aw_topE ((congrFun (emM_I M l (show r ≠ so by omega) (show r ≠ so + 1 by omega)) 0).trans hk) ?_
    refine aw_if_le 19 dX4_writePrimitive_4 (by decide) (fun c1 => absurd ((k8_le k hk8).mp c1) (by omega)) (fun c1 => ?_)
    refine aw_aload_n dX4_writePrimitive_7 1 rfl ?_
    refine aw_getI dX4_writePrimitive_8 fl_X4_45 ((sT_emM M so 1 (so + 1) l).row hR).1 ((sT_emM M so 1 (so + 1) l).row hR).n0 ?_
    refine aw_topE ((congrFun (emM_I M l (show r ≠ so by omega) (show r ≠ so + 1 by omega)) 0).trans hk) ?_
    refine aw_iconst (v := 5) dX4_writePrimitive_11 (by decide) ?_
    refine aw_icmp_gtN k 5 19 dX4_writePrimitive_12 (by decide) rfl rfl (by omega) (by omega) (fun c2 => absurd c2 (by omega)) (fun c2 => ?_)
    refine aw_iconst (v := 1) dX4_writePrimitive_15 (by decide) ?_
    refine aw_goto 20 dX4_writePrimitive_16 (by decide) ?_
    refine aw_istore_n [(2, .int 1), (0, .ref w), (1, .ref r)] dX4_writePrimitive_20 (Nat.le_of_ble_eq_true rfl) rfl ?_
    refine aw_aload_n dX4_writePrimitive_21 1 rfl ?_
    refine aw_getI dX4_writePrimitive_22 fl_X4_19 ((sT_emM M so 1 (so + 1) l).wr hW).1 ((sT_emM M so 1 (so + 1) l).wr hW).2.1 ?_
    refine aw_topE (em_w4 hw hf) ?_
    refine aw_iconst (v := 2) dX4_writePrimitive_25 (by decide) ?_
    refine aw_icmp_neN 2 2 37 dX4_writePrimitive_26 (by decide) rfl rfl (by omega) (by omega) (fun c3 => absurd rfl c3) (fun c3 => ?_)
    refine aw_iload_n dX4_writePrimitive_29 0 rfl ?_
    refine aw_if_ne 37 dX4_writePrimitive_30 (by decide) (fun c4 => ?_) (fun c4 => absurd c4 (by decide))
    refine aw_aload_n dX4_writePrimitive_37 1 rfl ?_
    refine aw_getI dX4_writePrimitive_38 fl_X4_19 ((sT_emM M so 1 (so + 1) l).wr hW).1 ((sT_emM M so 1 (so + 1) l).wr hW).2.1 ?_
    refine aw_topE (em_w4 hw hf) ?_
    refine aw_istore_n [(3, .int (nI 2)), (2, .int 1), (0, .ref w), (1, .ref r)] dX4_writePrimitive_41 (Nat.le_of_ble_eq_true rfl) rfl ?_
    refine aw_aload_n dX4_writePrimitive_42 2 rfl ?_
    refine aw_iload_n dX4_writePrimitive_43 0 rfl ?_
    refine aw_aload_n dX4_writePrimitive_44 3 rfl ?_
    refine aw_callVv [.int (nI 2), .ref r] [] (sp_wh (d := d - 1) (by omega) (l := l) 2 k z hW hR hr hk hz (by omega)) dX4_writePrimitive_45 ml_X4_69 im_X4_writeHead ((sT_emM M so 1 (so + 1) l).wr hW).1 ((sT_emM M so 1 (so + 1) l).wr hW).2.1 rfl rfl (dl1 (d := d) (by omega)) rfl rfl (Nat.le_of_ble_eq_true rfl) rfl rfl (Nat.zero_le _) (Nat.zero_le _) ?_
    refine aw_iload_n dX4_writePrimitive_48 0 rfl ?_
    refine aw_iconst (v := 1) dX4_writePrimitive_49 (by decide) ?_
    refine aw_icmp_neN 2 1 61 dX4_writePrimitive_50 (by decide) rfl rfl (by omega) (by omega) (fun c5 => ?_) (fun c5 => absurd c5 (by decide))
    refine aw_iload_n dX4_writePrimitive_61 0 rfl ?_
    refine aw_iconst (v := 2) dX4_writePrimitive_62 (by decide) ?_
    refine aw_icmp_neN 2 2 74 dX4_writePrimitive_63 (by decide) rfl rfl (by omega) (by omega) (fun c6 => absurd rfl c6) (fun c6 => ?_)
    refine aw_aload_n dX4_writePrimitive_66 2 rfl ?_
    refine aw_aload_n dX4_writePrimitive_67 3 rfl ?_
    refine aw_callVv [.ref r] [] (sp_ss (d := d - 1) (by omega) (l := l ++ [nI (16 * (2 + 1) + k), nI z]) k z V hk8 hW hR hr hk hz hz2 hV (by first | omega | (simp only [List.length_append, List.length_cons, List.length_nil, byB_len] at *; omega))) dX4_writePrimitive_68 ml_X4_99 im_X4_writeSteps ((sT_emM M so 1 (so + 1) (l ++ [nI (16 * (2 + 1) + k), nI z])).wr hW).1 ((sT_emM M so 1 (so + 1) (l ++ [nI (16 * (2 + 1) + k), nI z])).wr hW).2.1 rfl rfl (dl1 (d := d) (by omega)) rfl rfl (Nat.le_of_ble_eq_true rfl) rfl rfl (Nat.zero_le _) (Nat.zero_le _) ?_
    refine aw_goto 79 dX4_writePrimitive_71 (by decide) ?_
    refine aw_ret dX4_writePrimitive_79 rfl (Nat.zero_le _) (Nat.zero_le _) ?_
    exact ⟨rfl, rfl⟩
  · obtain ⟨rfl, h⟩ := h
    have ef : foP 2 k = 0 := (if_pos ⟨rfl, by omega⟩)
    have e : prB 2 k z V = [nI (16 * (0 + 1) + k), nI z] ++ flB k V z 0 := by unfold prB; rw [ef]; rfl
    rw [e, ← List.append_assoc]
    refine aw_aload_n dX4_writePrimitive_0 1 rfl ?_
    refine aw_getI dX4_writePrimitive_1 fl_X4_45 ((sT_emM M so 1 (so + 1) l).row hR).1 ((sT_emM M so 1 (so + 1) l).row hR).n0 ?_
    refine aw_topE ((congrFun (emM_I M l (show r ≠ so by omega) (show r ≠ so + 1 by omega)) 0).trans hk) ?_
    refine aw_if_le 19 dX4_writePrimitive_4 (by decide) (fun c1 => ?_) (fun c1 => absurd ((k8_le k hk8).mpr h) c1)
    refine aw_iconst (v := 0) dX4_writePrimitive_19 (by decide) ?_
    refine aw_istore_n [(2, .int 0), (0, .ref w), (1, .ref r)] dX4_writePrimitive_20 (Nat.le_of_ble_eq_true rfl) rfl ?_
    refine aw_aload_n dX4_writePrimitive_21 1 rfl ?_
    refine aw_getI dX4_writePrimitive_22 fl_X4_19 ((sT_emM M so 1 (so + 1) l).wr hW).1 ((sT_emM M so 1 (so + 1) l).wr hW).2.1 ?_
    refine aw_topE (em_w4 hw hf) ?_
    refine aw_iconst (v := 2) dX4_writePrimitive_25 (by decide) ?_
    refine aw_icmp_neN 2 2 37 dX4_writePrimitive_26 (by decide) rfl rfl (by omega) (by omega) (fun c2 => absurd rfl c2) (fun c2 => ?_)
    refine aw_iload_n dX4_writePrimitive_29 0 rfl ?_
    refine aw_if_ne 37 dX4_writePrimitive_30 (by decide) (fun c3 => absurd rfl c3) (fun c3 => ?_)
    refine aw_iconst (v := 0) dX4_writePrimitive_33 (by decide) ?_
    refine aw_goto 41 dX4_writePrimitive_34 (by decide) ?_
    refine aw_istore_n [(3, .int 0), (2, .int 0), (0, .ref w), (1, .ref r)] dX4_writePrimitive_41 (Nat.le_of_ble_eq_true rfl) rfl ?_
    refine aw_aload_n dX4_writePrimitive_42 2 rfl ?_
    refine aw_iload_n dX4_writePrimitive_43 0 rfl ?_
    refine aw_aload_n dX4_writePrimitive_44 3 rfl ?_
    refine aw_callVv [.int 0, .ref r] [] (sp_wh (d := d - 1) (by omega) (l := l) 0 k z hW hR hr hk hz (by omega)) dX4_writePrimitive_45 ml_X4_69 im_X4_writeHead ((sT_emM M so 1 (so + 1) l).wr hW).1 ((sT_emM M so 1 (so + 1) l).wr hW).2.1 rfl rfl (dl1 (d := d) (by omega)) rfl rfl (Nat.le_of_ble_eq_true rfl) rfl rfl (Nat.zero_le _) (Nat.zero_le _) ?_
    refine aw_iload_n dX4_writePrimitive_48 0 rfl ?_
    refine aw_iconst (v := 1) dX4_writePrimitive_49 (by decide) ?_
    refine aw_icmp_ne 61 dX4_writePrimitive_50 (by decide) (fun c4 => ?_) (fun c4 => absurd c4 (by decide))
    refine aw_iload_n dX4_writePrimitive_61 0 rfl ?_
    refine aw_iconst (v := 2) dX4_writePrimitive_62 (by decide) ?_
    refine aw_icmp_ne 74 dX4_writePrimitive_63 (by decide) (fun c5 => ?_) (fun c5 => absurd c5 (by decide))
    refine aw_aload_n dX4_writePrimitive_74 2 rfl ?_
    refine aw_aload_n dX4_writePrimitive_75 3 rfl ?_
    refine aw_callVv [.ref r] [] (sp_wf (d := d - 1) (by omega) (l := l ++ [nI (16 * (0 + 1) + k), nI z]) k z V hk8 hW hR hr hk hz hz2 hV (by first | omega | (simp only [List.length_append, List.length_cons, List.length_nil, byB_len] at *; omega))) dX4_writePrimitive_76 ml_X4_102 im_X4_writeFlat ((sT_emM M so 1 (so + 1) (l ++ [nI (16 * (0 + 1) + k), nI z])).wr hW).1 ((sT_emM M so 1 (so + 1) (l ++ [nI (16 * (0 + 1) + k), nI z])).wr hW).2.1 rfl rfl (dl1 (d := d) (by omega)) rfl rfl (Nat.le_of_ble_eq_true rfl) rfl rfl (Nat.zero_le _) (Nat.zero_le _) ?_
    refine aw_ret dX4_writePrimitive_79 rfl (Nat.zero_le _) (Nat.zero_le _) ?_
    exact ⟨rfl, rfl⟩
  · obtain ⟨rfl, h⟩ := h
    have ef : foP 2 k = 0 := (if_pos ⟨rfl, by omega⟩)
    have e : prB 2 k z V = [nI (16 * (0 + 1) + k), nI z] ++ flB k V z 0 := by unfold prB; rw [ef]; rfl
    rw [e, ← List.append_assoc]
    refine aw_aload_n dX4_writePrimitive_0 1 rfl ?_
    refine aw_getI dX4_writePrimitive_1 fl_X4_45 ((sT_emM M so 1 (so + 1) l).row hR).1 ((sT_emM M so 1 (so + 1) l).row hR).n0 ?_
    refine aw_topE ((congrFun (emM_I M l (show r ≠ so by omega) (show r ≠ so + 1 by omega)) 0).trans hk) ?_
    refine aw_if_le 19 dX4_writePrimitive_4 (by decide) (fun c1 => absurd ((k8_le k hk8).mp c1) (by omega)) (fun c1 => ?_)
    refine aw_aload_n dX4_writePrimitive_7 1 rfl ?_
    refine aw_getI dX4_writePrimitive_8 fl_X4_45 ((sT_emM M so 1 (so + 1) l).row hR).1 ((sT_emM M so 1 (so + 1) l).row hR).n0 ?_
    refine aw_topE ((congrFun (emM_I M l (show r ≠ so by omega) (show r ≠ so + 1 by omega)) 0).trans hk) ?_
    refine aw_iconst (v := 5) dX4_writePrimitive_11 (by decide) ?_
    refine aw_icmp_gtN k 5 19 dX4_writePrimitive_12 (by decide) rfl rfl (by omega) (by omega) (fun c2 => ?_) (fun c2 => absurd (by omega) c2)
    refine aw_iconst (v := 0) dX4_writePrimitive_19 (by decide) ?_
    refine aw_istore_n [(2, .int 0), (0, .ref w), (1, .ref r)] dX4_writePrimitive_20 (Nat.le_of_ble_eq_true rfl) rfl ?_
    refine aw_aload_n dX4_writePrimitive_21 1 rfl ?_
    refine aw_getI dX4_writePrimitive_22 fl_X4_19 ((sT_emM M so 1 (so + 1) l).wr hW).1 ((sT_emM M so 1 (so + 1) l).wr hW).2.1 ?_
    refine aw_topE (em_w4 hw hf) ?_
    refine aw_iconst (v := 2) dX4_writePrimitive_25 (by decide) ?_
    refine aw_icmp_neN 2 2 37 dX4_writePrimitive_26 (by decide) rfl rfl (by omega) (by omega) (fun c3 => absurd rfl c3) (fun c3 => ?_)
    refine aw_iload_n dX4_writePrimitive_29 0 rfl ?_
    refine aw_if_ne 37 dX4_writePrimitive_30 (by decide) (fun c4 => absurd rfl c4) (fun c4 => ?_)
    refine aw_iconst (v := 0) dX4_writePrimitive_33 (by decide) ?_
    refine aw_goto 41 dX4_writePrimitive_34 (by decide) ?_
    refine aw_istore_n [(3, .int 0), (2, .int 0), (0, .ref w), (1, .ref r)] dX4_writePrimitive_41 (Nat.le_of_ble_eq_true rfl) rfl ?_
    refine aw_aload_n dX4_writePrimitive_42 2 rfl ?_
    refine aw_iload_n dX4_writePrimitive_43 0 rfl ?_
    refine aw_aload_n dX4_writePrimitive_44 3 rfl ?_
    refine aw_callVv [.int 0, .ref r] [] (sp_wh (d := d - 1) (by omega) (l := l) 0 k z hW hR hr hk hz (by omega)) dX4_writePrimitive_45 ml_X4_69 im_X4_writeHead ((sT_emM M so 1 (so + 1) l).wr hW).1 ((sT_emM M so 1 (so + 1) l).wr hW).2.1 rfl rfl (dl1 (d := d) (by omega)) rfl rfl (Nat.le_of_ble_eq_true rfl) rfl rfl (Nat.zero_le _) (Nat.zero_le _) ?_
    refine aw_iload_n dX4_writePrimitive_48 0 rfl ?_
    refine aw_iconst (v := 1) dX4_writePrimitive_49 (by decide) ?_
    refine aw_icmp_ne 61 dX4_writePrimitive_50 (by decide) (fun c5 => ?_) (fun c5 => absurd c5 (by decide))
    refine aw_iload_n dX4_writePrimitive_61 0 rfl ?_
    refine aw_iconst (v := 2) dX4_writePrimitive_62 (by decide) ?_
    refine aw_icmp_ne 74 dX4_writePrimitive_63 (by decide) (fun c6 => ?_) (fun c6 => absurd c6 (by decide))
    refine aw_aload_n dX4_writePrimitive_74 2 rfl ?_
    refine aw_aload_n dX4_writePrimitive_75 3 rfl ?_
    refine aw_callVv [.ref r] [] (sp_wf (d := d - 1) (by omega) (l := l ++ [nI (16 * (0 + 1) + k), nI z]) k z V hk8 hW hR hr hk hz hz2 hV (by first | omega | (simp only [List.length_append, List.length_cons, List.length_nil, byB_len] at *; omega))) dX4_writePrimitive_76 ml_X4_102 im_X4_writeFlat ((sT_emM M so 1 (so + 1) (l ++ [nI (16 * (0 + 1) + k), nI z])).wr hW).1 ((sT_emM M so 1 (so + 1) (l ++ [nI (16 * (0 + 1) + k), nI z])).wr hW).2.1 rfl rfl (dl1 (d := d) (by omega)) rfl rfl (Nat.le_of_ble_eq_true rfl) rfl rfl (Nat.zero_le _) (Nat.zero_le _) ?_
    refine aw_ret dX4_writePrimitive_79 rfl (Nat.zero_le _) (Nat.zero_le _) ?_
    exact ⟨rfl, rfl⟩
theorem isk14 {k : Nat} (hk : k < 14) : sX0_isKind (nI k) = decide (k < 8) := (by decide : ∀ k, k < 14 → sX0_isKind (nI k) = decide (k < 8)) k hk
theorem sp_we8 {d : Nat} (hd : 4 ≤ d) {M : xM} {w rw so : Nat} {l : List Int32} {c : Nat} (hc : c < 2 ^ 63) (hW : WrAt M w rw so) (hl : l.length + 10 ≤ 1464) : Sp (fX4_writeTagged d) [.ref w, .int 8, .long (lN c)] (emM M so 1 (so + 1) l) (dt none (emM M so 1 (so + 1) (l ++ elB 8 (lN c)))) := by
  refine Sp.of pn_X4 (Nat.le_of_ble_eq_true rfl) (fun h => Bool.noConfusion h) ?_
  rw [show elB 8 (lN c) = [8] ++ woB c by unfold elB; rw [if_pos rfl, lC_N (by omega)]; rfl, ← List.append_assoc]
  refine aw_aload_n dX4_writeTagged_0 0 rfl ?_
  refine aw_getR (b := so) dX4_writeTagged_1 fl_X4_26 rfl ((sT_emM M so 1 (so + 1) l).wr hW).1 ((sT_emM M so 1 (so + 1) l).wr hW).2.1 ((sT_emM M so 1 (so + 1) l).wr hW).2.2.2.1 ?_
  refine aw_iload_n dX4_writeTagged_4 1 rfl ?_
  refine aw_callVv [.int 8] [] (sp_add (d := d - 1) (by omega) (l := l) 8 hW.2.2.2.2.2.2.2.1 (by first | omega | (simp only [List.length_append, List.length_cons, List.length_nil, byB_len] at *; omega))) dX4_writeTagged_5 ml_X4_56 im_X3_add ((sT_emM M so 1 (so + 1) l).wr hW).2.2.2.2.2.2.2.1.1 ((sT_emM M so 1 (so + 1) l).wr hW).2.2.2.2.2.2.2.1.n0 rfl rfl (dl1 (d := d) (by omega)) rfl rfl (Nat.le_of_ble_eq_true rfl) rfl rfl (Nat.zero_le _) (Nat.zero_le _) ?_
  refine aw_iload_n dX4_writeTagged_8 1 rfl ?_
  refine aw_bipush (v := 8) dX4_writeTagged_9 (by decide) ?_
  refine aw_icmp_ne 22 dX4_writeTagged_11 (by decide) (fun c1 => absurd rfl c1) (fun c1 => ?_)
  refine aw_aload_n dX4_writeTagged_14 0 rfl ?_
  refine aw_lload_n dX4_writeTagged_15 2 rfl ?_
  refine aw_callVv [.long (lN c)] [] (sp_le (d := d - 1) (by omega) (l := l ++ [8]) c hc hW (by first | omega | (simp only [List.length_append, List.length_cons, List.length_nil, byB_len] at *; omega))) dX4_writeTagged_16 ml_X4_77 im_X4_writeLetters ((sT_emM M so 1 (so + 1) (l ++ [8])).wr hW).1 ((sT_emM M so 1 (so + 1) (l ++ [8])).wr hW).2.1 rfl rfl (dl1 (d := d) (by omega)) rfl rfl (Nat.le_of_ble_eq_true rfl) rfl rfl (Nat.zero_le _) (Nat.zero_le _) ?_
  refine aw_goto 53 dX4_writeTagged_19 (by decide) ?_
  refine aw_ret dX4_writeTagged_53 rfl (Nat.zero_le _) (Nat.zero_le _) ?_
  exact ⟨rfl, rfl⟩
theorem sp_we9 {d : Nat} (hd : 4 ≤ d) {M : xM} {w rw so : Nat} {l : List Int32} (v : Int64) (hW : WrAt M w rw so) (hl : l.length + 10 ≤ 1464) : Sp (fX4_writeTagged d) [.ref w, .int 9, .long v] (emM M so 1 (so + 1) l) (dt none (emM M so 1 (so + 1) (l ++ elB 9 v))) := by
  refine Sp.of pn_X4 (Nat.le_of_ble_eq_true rfl) (fun h => Bool.noConfusion h) ?_
  rw [show elB 9 v = [9] ++ [v.toInt32] from rfl, ← List.append_assoc]
  refine aw_aload_n dX4_writeTagged_0 0 rfl ?_
  refine aw_getR (b := so) dX4_writeTagged_1 fl_X4_26 rfl ((sT_emM M so 1 (so + 1) l).wr hW).1 ((sT_emM M so 1 (so + 1) l).wr hW).2.1 ((sT_emM M so 1 (so + 1) l).wr hW).2.2.2.1 ?_
  refine aw_iload_n dX4_writeTagged_4 1 rfl ?_
  refine aw_callVv [.int 9] [] (sp_add (d := d - 1) (by omega) (l := l) 9 hW.2.2.2.2.2.2.2.1 (by first | omega | (simp only [List.length_append, List.length_cons, List.length_nil, byB_len] at *; omega))) dX4_writeTagged_5 ml_X4_56 im_X3_add ((sT_emM M so 1 (so + 1) l).wr hW).2.2.2.2.2.2.2.1.1 ((sT_emM M so 1 (so + 1) l).wr hW).2.2.2.2.2.2.2.1.n0 rfl rfl (dl1 (d := d) (by omega)) rfl rfl (Nat.le_of_ble_eq_true rfl) rfl rfl (Nat.zero_le _) (Nat.zero_le _) ?_
  refine aw_iload_n dX4_writeTagged_8 1 rfl ?_
  refine aw_bipush (v := 8) dX4_writeTagged_9 (by decide) ?_
  refine aw_icmp_ne 22 dX4_writeTagged_11 (by decide) (fun c1 => ?_) (fun c1 => absurd c1 (by decide))
  refine aw_iload_n dX4_writeTagged_22 1 rfl ?_
  refine aw_bipush (v := 9) dX4_writeTagged_23 (by decide) ?_
  refine aw_icmp_ne 40 dX4_writeTagged_25 (by decide) (fun c2 => absurd rfl c2) (fun c2 => ?_)
  refine aw_aload_n dX4_writeTagged_28 0 rfl ?_
  refine aw_getR (b := so) dX4_writeTagged_29 fl_X4_26 rfl ((sT_emM M so 1 (so + 1) (l ++ [9])).wr hW).1 ((sT_emM M so 1 (so + 1) (l ++ [9])).wr hW).2.1 ((sT_emM M so 1 (so + 1) (l ++ [9])).wr hW).2.2.2.1 ?_
  refine aw_lload_n dX4_writeTagged_32 2 rfl ?_
  refine aw_l2i dX4_writeTagged_33 ?_
  refine aw_callVv [.int (Int64.toInt32 v)] [] (sp_add (d := d - 1) (by omega) (l := l ++ [9]) (Int64.toInt32 v) hW.2.2.2.2.2.2.2.1 (by first | omega | (simp only [List.length_append, List.length_cons, List.length_nil, byB_len] at *; omega))) dX4_writeTagged_34 ml_X4_56 im_X3_add ((sT_emM M so 1 (so + 1) (l ++ [9])).wr hW).2.2.2.2.2.2.2.1.1 ((sT_emM M so 1 (so + 1) (l ++ [9])).wr hW).2.2.2.2.2.2.2.1.n0 rfl rfl (dl1 (d := d) (by omega)) rfl rfl (Nat.le_of_ble_eq_true rfl) rfl rfl (Nat.zero_le _) (Nat.zero_le _) ?_
  refine aw_goto 53 dX4_writeTagged_37 (by decide) ?_
  refine aw_ret dX4_writeTagged_53 rfl (Nat.zero_le _) (Nat.zero_le _) ?_
  exact ⟨rfl, rfl⟩
theorem sp_we11 {d : Nat} (hd : 4 ≤ d) {M : xM} {w rw so : Nat} {l : List Int32} (v : Int64) (hW : WrAt M w rw so) (hl : l.length + 10 ≤ 1464) : Sp (fX4_writeTagged d) [.ref w, .int 11, .long v] (emM M so 1 (so + 1) l) (dt none (emM M so 1 (so + 1) (l ++ elB 11 v))) := by
  refine Sp.of pn_X4 (Nat.le_of_ble_eq_true rfl) (fun h => Bool.noConfusion h) ?_
  rw [show elB 11 v = [11] from rfl]
  refine aw_aload_n dX4_writeTagged_0 0 rfl ?_
  refine aw_getR (b := so) dX4_writeTagged_1 fl_X4_26 rfl ((sT_emM M so 1 (so + 1) l).wr hW).1 ((sT_emM M so 1 (so + 1) l).wr hW).2.1 ((sT_emM M so 1 (so + 1) l).wr hW).2.2.2.1 ?_
  refine aw_iload_n dX4_writeTagged_4 1 rfl ?_
  refine aw_callVv [.int 11] [] (sp_add (d := d - 1) (by omega) (l := l) 11 hW.2.2.2.2.2.2.2.1 (by first | omega | (simp only [List.length_append, List.length_cons, List.length_nil, byB_len] at *; omega))) dX4_writeTagged_5 ml_X4_56 im_X3_add ((sT_emM M so 1 (so + 1) l).wr hW).2.2.2.2.2.2.2.1.1 ((sT_emM M so 1 (so + 1) l).wr hW).2.2.2.2.2.2.2.1.n0 rfl rfl (dl1 (d := d) (by omega)) rfl rfl (Nat.le_of_ble_eq_true rfl) rfl rfl (Nat.zero_le _) (Nat.zero_le _) ?_
  refine aw_iload_n dX4_writeTagged_8 1 rfl ?_
  refine aw_bipush (v := 8) dX4_writeTagged_9 (by decide) ?_
  refine aw_icmp_ne 22 dX4_writeTagged_11 (by decide) (fun c1 => ?_) (fun c1 => absurd c1 (by decide))
  refine aw_iload_n dX4_writeTagged_22 1 rfl ?_
  refine aw_bipush (v := 9) dX4_writeTagged_23 (by decide) ?_
  refine aw_icmp_ne 40 dX4_writeTagged_25 (by decide) (fun c2 => ?_) (fun c2 => absurd c2 (by decide))
  refine aw_iload_n dX4_writeTagged_40 1 rfl ?_
  refine aw_callSi [.int 11] [] (sp_X0_isKind (d := d - 1) (by omega) 11) dX4_writeTagged_41 ml_X4_81 sm_X0_isKind rfl (dl1 (d := d) (by omega)) rfl rfl (Nat.le_of_ble_eq_true rfl) rfl rfl (Nat.zero_le _) (Nat.zero_le _) ?_
  refine aw_if_eq 53 dX4_writeTagged_44 (by decide) (fun c3 => ?_) (fun c3 => absurd rfl c3)
  refine aw_ret dX4_writeTagged_53 rfl (Nat.zero_le _) (Nat.zero_le _) ?_
  exact ⟨rfl, rfl⟩
theorem sp_weN {d : Nat} (hd : 4 ≤ d) {M : xM} {w rw so : Nat} {l : List Int32} {k : Nat} (hk : k < 8) (v : Int64) (hW : WrAt M w rw so) (hl : l.length + 10 ≤ 1464) : Sp (fX4_writeTagged d) [.ref w, .int (nI k), .long v] (emM M so 1 (so + 1) l) (dt none (emM M so 1 (so + 1) (l ++ elB k v))) := by
  refine Sp.of pn_X4 (Nat.le_of_ble_eq_true rfl) (fun h => Bool.noConfusion h) ?_
  have hln := nuC_len hk v
  rw [show elB k v = [nI k] ++ nuC k v by unfold elB; rw [if_neg (by omega), if_neg (by omega), if_pos hk]; rfl, ← List.append_assoc]
  refine aw_aload_n dX4_writeTagged_0 0 rfl ?_
  refine aw_getR (b := so) dX4_writeTagged_1 fl_X4_26 rfl ((sT_emM M so 1 (so + 1) l).wr hW).1 ((sT_emM M so 1 (so + 1) l).wr hW).2.1 ((sT_emM M so 1 (so + 1) l).wr hW).2.2.2.1 ?_
  refine aw_iload_n dX4_writeTagged_4 1 rfl ?_
  refine aw_callVv [.int (nI k)] [] (sp_add (d := d - 1) (by omega) (l := l) (nI k) hW.2.2.2.2.2.2.2.1 (by first | omega | (simp only [List.length_append, List.length_cons, List.length_nil, byB_len] at *; omega))) dX4_writeTagged_5 ml_X4_56 im_X3_add ((sT_emM M so 1 (so + 1) l).wr hW).2.2.2.2.2.2.2.1.1 ((sT_emM M so 1 (so + 1) l).wr hW).2.2.2.2.2.2.2.1.n0 rfl rfl (dl1 (d := d) (by omega)) rfl rfl (Nat.le_of_ble_eq_true rfl) rfl rfl (Nat.zero_le _) (Nat.zero_le _) ?_
  refine aw_iload_n dX4_writeTagged_8 1 rfl ?_
  refine aw_bipush (v := 8) dX4_writeTagged_9 (by decide) ?_
  refine aw_icmp_neN k 8 22 dX4_writeTagged_11 (by decide) rfl rfl (by omega) (by omega) (fun c1 => ?_) (fun c1 => absurd c1 (by omega))
  refine aw_iload_n dX4_writeTagged_22 1 rfl ?_
  refine aw_bipush (v := 9) dX4_writeTagged_23 (by decide) ?_
  refine aw_icmp_neN k 9 40 dX4_writeTagged_25 (by decide) rfl rfl (by omega) (by omega) (fun c2 => ?_) (fun c2 => absurd c2 (by omega))
  refine aw_iload_n dX4_writeTagged_40 1 rfl ?_
  refine aw_callSi [.int (nI k)] [] (sp_X0_isKind (d := d - 1) (by omega) (nI k)) dX4_writeTagged_41 ml_X4_81 sm_X0_isKind rfl (dl1 (d := d) (by omega)) rfl rfl (Nat.le_of_ble_eq_true rfl) rfl rfl (Nat.zero_le _) (Nat.zero_le _) ?_
  refine aw_if_eq 53 dX4_writeTagged_44 (by decide) (fun c3 => absurd c3 (bz_n0.mpr (show sX0_isKind (nI k) = true by rw [isk14 (by omega)]; exact decide_eq_true hk))) (fun c3 => ?_)
  refine aw_aload_n dX4_writeTagged_47 0 rfl ?_
  refine aw_iload_n dX4_writeTagged_48 1 rfl ?_
  refine aw_lload_n dX4_writeTagged_49 2 rfl ?_
  refine aw_callVv [.int (nI k), .long v] [] (sp_wn (d := d - 1) (by omega) (l := l ++ [nI k]) k v hk hW (by first | omega | (simp only [List.length_append, List.length_cons, List.length_nil, byB_len] at *; omega))) dX4_writeTagged_50 ml_X4_87 im_X4_writeNumber ((sT_emM M so 1 (so + 1) (l ++ [nI k])).wr hW).1 ((sT_emM M so 1 (so + 1) (l ++ [nI k])).wr hW).2.1 rfl rfl (dl1 (d := d) (by omega)) rfl rfl (Nat.le_of_ble_eq_true rfl) rfl rfl (Nat.zero_le _) (Nat.zero_le _) ?_
  refine aw_ret dX4_writeTagged_53 rfl (Nat.zero_le _) (Nat.zero_le _) ?_
  exact ⟨rfl, rfl⟩
def WrD (M : xM) (w rw so m : Nat) (K Z : Nat → Nat) (W : Nat → Nat → Nat) (V : Nat → Nat → Int64) : Prop := WrAt M w rw so ∧ so + 1 < w ∧ m < 3 ∧ mI M w 4 = nI m ∧ lkOk K Z W V ∧ ∀ t, t < 12 → K t < 14 → ∃ r, mR M rw t = some r ∧ RowAt M r ∧ so + 1 < r ∧ (r + 2 < w ∨ w + 1 < r) ∧ mI M r 0 = nI (K t) ∧ mI M r 1 = nI (Z t) ∧ ∀ j, j < Z t → mI M (r + 1) j = nI (W t j) ∧ mL M (r + 2) j = V t j
theorem nI_nn {i : Nat} (h : i < 2 ^ 31) : ¬ nI i < 0 := fun z => by have := Int32.lt_iff_toInt_lt.mp z; rw [nI_toInt (by omega)] at this; have e0 : (0 : Int32).toInt = 0 := rfl; omega
theorem en_I (M : xM) {w so x : Nat} (ms : List Nat) (l : List Int32) (h1 : so + 1 < x) (h2 : x ≠ w) (h3 : x ≠ w + 1) : mI (emM (nuM M w ms) so 1 (so + 1) l) x = mI M x := (emM_I _ l (by omega) (by omega)).trans (nuM_I M ms h2 h3)
theorem en_w (M : xM) {w so : Nat} (ms : List Nat) (l : List Int32) (h1 : so + 1 < w) : mI (emM (nuM M w ms) so 1 (so + 1) l) w 3 = nI ms.length := (congrFun (emM_I _ l (show w ≠ so by omega) (show w ≠ so + 1 by omega)) 3).trans (nuM_f M w ms)
theorem en_a (M : xM) {w so t : Nat} (ms : List Nat) (l : List Int32) (h1 : so + 1 < w) (ht : t < 12) : mI (emM (nuM M w ms) so 1 (so + 1) l) (w + 1) t = if t ∈ ms then nI (ms.idxOf t) else -1 := (congrFun (emM_I _ l (show w + 1 ≠ so by omega) (show w + 1 ≠ so + 1 by omega)) t).trans (nuM_a M w ms ht)
theorem lp_wo {d : Nat} (hd : 4 + 1 ≤ d) {M : xM} {w rw so r t N : Nat} {K Z : Nat → Nat} {W : Nat → Nat → Nat} {V : Nat → Nat → Int64} {F : Nat → List Nat → List Int32 × List Nat} (hI : ∀ u ms, u < 12 → K u < 14 → msOk ms → msOk (F u ms).2 ∧ ms.length ≤ (F u ms).2.length ∧ (F u ms).1.length + 122 * ms.length ≤ 122 * (F u ms).2.length + 2) (hA : ∀ u ms l, u < 12 → K u < 14 → msOk ms → N ≤ ms.length → l.length ≤ 122 * ms.length → (u ∈ ms → l.length + 2 ≤ 122 * ms.length) → Sp (fX4_writeArray (d - 1)) [.ref w, .int (nI u)] (emM (nuM M w ms) so 1 (so + 1) l) (dt none (emM (nuM M w ((F u ms).2)) so 1 (so + 1) (l ++ (F u ms).1)))) (hL : lkOk K Z W V) (ht : t < 12) (hkt : K t < 14) (hW : WrAt M w rw so) (hw : so + 1 < w) (hR : RowAt M r) (hr : so + 1 < r) (hrw : r + 2 < w ∨ w + 1 < r) (hz : mI M r 1 = nI (Z t)) (hc : ∀ j, j < Z t → mI M (r + 1) j = nI (W t j) ∧ mL M (r + 2) j = V t j) : ∀ (n j : Nat) (ms : List Nat) (l : List Int32), j + n = Z t → msOk ms → N ≤ ms.length → l.length + 10 * n ≤ 122 * ms.length → AW (fX4_writeObjects d) 8 [(2, .int (nI j)), (0, .ref w), (1, .ref r)] [] (emM (nuM M w ms) so 1 (so + 1) l) 0 0 (dt none (emM (nuM M w ((ceB F (W t) (V t) n j ms).2)) so 1 (so + 1) (l ++ (ceB F (W t) (V t) n j ms).1))) := by
  intro n
  have hz2 := (hL t ht hkt).1
  have r0 : r ≠ w := by omega
  have r2 : r ≠ w + 1 := by omega
  have r1 : r + 1 ≠ w := by omega
  have r3 : r + 1 ≠ w + 1 := by omega
  have rs : so + 1 < r + 1 := by omega
  induction n with
  | zero =>
    intro j ms l hj hm hN hl
    rw [show ceB F (W t) (V t) 0 j ms = ([], ms) from rfl]
    dsimp only
    rw [List.append_nil]
    refine aw_iload_n dX4_writeObjects_8 0 rfl ?_
    refine aw_aload_n dX4_writeObjects_9 2 rfl ?_
    refine aw_getI dX4_writeObjects_10 fl_X4_73 ((sT_emM (nuM M w ms) so 1 (so + 1) l).row ((sT_nuM M w ms).row hR)).1 ((sT_emM (nuM M w ms) so 1 (so + 1) l).row ((sT_nuM M w ms).row hR)).n0 ?_
    refine aw_topE ((congrFun (en_I M ms l hr r0 r2) 1).trans hz) ?_
    refine aw_icmp_geN j (Z t) 63 dX4_writeObjects_13 (by decide) rfl rfl (by omega) (by omega) (fun c1 => ?_) (fun c1 => absurd (by omega) c1)
    refine aw_ret dX4_writeObjects_63 rfl (Nat.zero_le _) (Nat.zero_le _) ?_
    exact ⟨rfl, rfl⟩
  | succ n ih =>
    intro j ms l hj hm hN hl
    obtain ⟨h1, h2, h3⟩ := (hL t ht hkt).2 j (by omega)
    obtain ⟨q1, q2⟩ := hc j (by omega)
    have hml := ms_len hm
    have hlen : l.length + 10 ≤ 1464 := by omega
    by_cases cw : W t j = 10
    · obtain ⟨u, u1, u2, u3⟩ := h2 cw
      clear h2 h3
      have e : ceB F (W t) (V t) (n + 1) j ms = ((F u ms).1 ++ (ceB F (W t) (V t) n (j + 1) (F u ms).2).1, (ceB F (W t) (V t) n (j + 1) (F u ms).2).2) := by
        show (if W t j = 10 then _ else _) = _
        rw [if_pos cw, u2, lC_N (by omega)]
      rw [e]
      dsimp only
      obtain ⟨i1, i2, i3⟩ := hI u ms u1 u3 hm
      have q := ih (j + 1) (F u ms).2 (l ++ (F u ms).1) (by omega) i1 (by omega) (by rw [List.length_append]; omega)
      rw [List.append_assoc] at q
      refine aw_iload_n dX4_writeObjects_8 0 rfl ?_
      refine aw_aload_n dX4_writeObjects_9 2 rfl ?_
      refine aw_getI dX4_writeObjects_10 fl_X4_73 ((sT_emM (nuM M w ms) so 1 (so + 1) l).row ((sT_nuM M w ms).row hR)).1 ((sT_emM (nuM M w ms) so 1 (so + 1) l).row ((sT_nuM M w ms).row hR)).n0 ?_
      refine aw_topE ((congrFun (en_I M ms l hr r0 r2) 1).trans hz) ?_
      refine aw_icmp_geN j (Z t) 63 dX4_writeObjects_13 (by decide) rfl rfl (by omega) (by omega) (fun c1 => absurd c1 (by omega)) (fun c1 => ?_)
      refine aw_aload_n dX4_writeObjects_16 2 rfl ?_
      refine aw_getR (b := r + 1) dX4_writeObjects_17 fl_X4_74 rfl ((sT_emM (nuM M w ms) so 1 (so + 1) l).row ((sT_nuM M w ms).row hR)).1 ((sT_emM (nuM M w ms) so 1 (so + 1) l).row ((sT_nuM M w ms).row hR)).n0 ((sT_emM (nuM M w ms) so 1 (so + 1) l).row ((sT_nuM M w ms).row hR)).2.2.2.1 ?_
      refine aw_iload_n dX4_writeObjects_20 0 rfl ?_
      refine aw_ialdN j dX4_writeObjects_21 ((sT_emM (nuM M w ms) so 1 (so + 1) l).row ((sT_nuM M w ms).row hR)).2.1 ((sT_emM (nuM M w ms) so 1 (so + 1) l).row ((sT_nuM M w ms).row hR)).n1 rfl (by omega) (by first | decide | omega) ?_
      refine aw_topE (((congrFun (en_I M ms l rs r1 r3) j).trans q1).trans (congrArg nI cw)) ?_
      refine aw_bipush (v := 10) dX4_writeObjects_22 (by decide) ?_
      refine aw_icmp_ne 41 dX4_writeObjects_24 (by decide) (fun c2 => absurd rfl c2) (fun c2 => ?_)
      refine aw_aload_n dX4_writeObjects_27 1 rfl ?_
      refine aw_aload_n dX4_writeObjects_28 2 rfl ?_
      refine aw_getR (b := r + 2) dX4_writeObjects_29 fl_X4_48 rfl ((sT_emM (nuM M w ms) so 1 (so + 1) l).row ((sT_nuM M w ms).row hR)).1 ((sT_emM (nuM M w ms) so 1 (so + 1) l).row ((sT_nuM M w ms).row hR)).n0 ((sT_emM (nuM M w ms) so 1 (so + 1) l).row ((sT_nuM M w ms).row hR)).2.2.2.2.1 ?_
      refine aw_iload_n dX4_writeObjects_32 0 rfl ?_
      refine aw_laldN j dX4_writeObjects_33 ((sT_emM (nuM M w ms) so 1 (so + 1) l).row ((sT_nuM M w ms).row hR)).2.2.1 ((sT_emM (nuM M w ms) so 1 (so + 1) l).row ((sT_nuM M w ms).row hR)).n2 rfl (by omega) (by first | decide | omega) ?_
      refine aw_toplE (q2.trans u2) ?_
      refine aw_l2iN u dX4_writeObjects_34 rfl ?_
      refine aw_callVv [.int (nI u)] [] (hA u ms l u1 u3 hm hN (by omega) (fun _ => by omega)) dX4_writeObjects_35 ml_X4_41 im_X4_writeArray ((sT_emM (nuM M w ms) so 1 (so + 1) l).wr ((sT_nuM M w ms).wr hW)).1 ((sT_emM (nuM M w ms) so 1 (so + 1) l).wr ((sT_nuM M w ms).wr hW)).2.1 rfl rfl (dl1 (d := d) (by omega)) rfl rfl (Nat.le_of_ble_eq_true rfl) rfl rfl (Nat.zero_le _) (Nat.zero_le _) ?_
      refine aw_goto 57 dX4_writeObjects_38 (by decide) ?_
      refine aw_iincN j 1 [(2, .int (nI (j + 1))), (0, .ref w), (1, .ref r)] dX4_writeObjects_57 0 rfl rfl rfl (Nat.le_of_ble_eq_true rfl) rfl ?_
      refine aw_goto 8 dX4_writeObjects_60 (by decide) ?_
      exact q
    · have e : ceB F (W t) (V t) (n + 1) j ms = (elB (W t j) (V t j) ++ (ceB F (W t) (V t) n (j + 1) ms).1, (ceB F (W t) (V t) n (j + 1) ms).2) := if_neg cw
      rw [e]
      dsimp only
      clear h2
      have hel := elB_len (W t j) (V t j)
      have q := ih (j + 1) ms (l ++ elB (W t j) (V t j)) (by clear h3; omega) hm hN (by clear h3; rw [List.length_append]; omega)
      rw [List.append_assoc] at q
      have cw0 := cw
      clear cw
      have hcs : W t j = 8 ∨ W t j = 9 ∨ W t j = 11 ∨ W t j < 8 := by clear h3; omega
      rcases hcs with cw | cw | cw | cw
      · obtain ⟨c, hc1, hc2⟩ := h3 cw
        clear h3
        rw [cw, hc2] at q ⊢
        refine aw_iload_n dX4_writeObjects_8 0 rfl ?_
        refine aw_aload_n dX4_writeObjects_9 2 rfl ?_
        refine aw_getI dX4_writeObjects_10 fl_X4_73 ((sT_emM (nuM M w ms) so 1 (so + 1) l).row ((sT_nuM M w ms).row hR)).1 ((sT_emM (nuM M w ms) so 1 (so + 1) l).row ((sT_nuM M w ms).row hR)).n0 ?_
        refine aw_topE ((congrFun (en_I M ms l hr r0 r2) 1).trans hz) ?_
        refine aw_icmp_geN j (Z t) 63 dX4_writeObjects_13 (by decide) rfl rfl (by omega) (by omega) (fun c1 => absurd c1 (by omega)) (fun c1 => ?_)
        refine aw_aload_n dX4_writeObjects_16 2 rfl ?_
        refine aw_getR (b := r + 1) dX4_writeObjects_17 fl_X4_74 rfl ((sT_emM (nuM M w ms) so 1 (so + 1) l).row ((sT_nuM M w ms).row hR)).1 ((sT_emM (nuM M w ms) so 1 (so + 1) l).row ((sT_nuM M w ms).row hR)).n0 ((sT_emM (nuM M w ms) so 1 (so + 1) l).row ((sT_nuM M w ms).row hR)).2.2.2.1 ?_
        refine aw_iload_n dX4_writeObjects_20 0 rfl ?_
        refine aw_ialdN j dX4_writeObjects_21 ((sT_emM (nuM M w ms) so 1 (so + 1) l).row ((sT_nuM M w ms).row hR)).2.1 ((sT_emM (nuM M w ms) so 1 (so + 1) l).row ((sT_nuM M w ms).row hR)).n1 rfl (by omega) (by first | decide | omega) ?_
        refine aw_topE (((congrFun (en_I M ms l rs r1 r3) j).trans q1).trans (congrArg nI cw)) ?_
        refine aw_bipush (v := 10) dX4_writeObjects_22 (by decide) ?_
        refine aw_icmp_ne 41 dX4_writeObjects_24 (by decide) (fun c2 => ?_) (fun c2 => absurd c2 (by decide))
        refine aw_aload_n dX4_writeObjects_41 1 rfl ?_
        refine aw_aload_n dX4_writeObjects_42 2 rfl ?_
        refine aw_getR (b := r + 1) dX4_writeObjects_43 fl_X4_74 rfl ((sT_emM (nuM M w ms) so 1 (so + 1) l).row ((sT_nuM M w ms).row hR)).1 ((sT_emM (nuM M w ms) so 1 (so + 1) l).row ((sT_nuM M w ms).row hR)).n0 ((sT_emM (nuM M w ms) so 1 (so + 1) l).row ((sT_nuM M w ms).row hR)).2.2.2.1 ?_
        refine aw_iload_n dX4_writeObjects_46 0 rfl ?_
        refine aw_ialdN j dX4_writeObjects_47 ((sT_emM (nuM M w ms) so 1 (so + 1) l).row ((sT_nuM M w ms).row hR)).2.1 ((sT_emM (nuM M w ms) so 1 (so + 1) l).row ((sT_nuM M w ms).row hR)).n1 rfl (by omega) (by first | decide | omega) ?_
        refine aw_topE (((congrFun (en_I M ms l rs r1 r3) j).trans q1).trans (congrArg nI cw)) ?_
        refine aw_aload_n dX4_writeObjects_48 2 rfl ?_
        refine aw_getR (b := r + 2) dX4_writeObjects_49 fl_X4_48 rfl ((sT_emM (nuM M w ms) so 1 (so + 1) l).row ((sT_nuM M w ms).row hR)).1 ((sT_emM (nuM M w ms) so 1 (so + 1) l).row ((sT_nuM M w ms).row hR)).n0 ((sT_emM (nuM M w ms) so 1 (so + 1) l).row ((sT_nuM M w ms).row hR)).2.2.2.2.1 ?_
        refine aw_iload_n dX4_writeObjects_52 0 rfl ?_
        refine aw_laldN j dX4_writeObjects_53 ((sT_emM (nuM M w ms) so 1 (so + 1) l).row ((sT_nuM M w ms).row hR)).2.2.1 ((sT_emM (nuM M w ms) so 1 (so + 1) l).row ((sT_nuM M w ms).row hR)).n2 rfl (by omega) (by first | decide | omega) ?_
        refine aw_toplE (q2.trans hc2) ?_
        refine aw_callVv [.int 8, .long (lN c)] [] (sp_we8 (d := d - 1) (by omega) hc1 ((sT_nuM M w ms).wr hW) hlen) dX4_writeObjects_54 ml_X4_52 im_X4_writeTagged ((sT_emM (nuM M w ms) so 1 (so + 1) l).wr ((sT_nuM M w ms).wr hW)).1 ((sT_emM (nuM M w ms) so 1 (so + 1) l).wr ((sT_nuM M w ms).wr hW)).2.1 rfl rfl (dl1 (d := d) (by omega)) rfl rfl (Nat.le_of_ble_eq_true rfl) rfl rfl (Nat.zero_le _) (Nat.zero_le _) ?_
        refine aw_iincN j 1 [(2, .int (nI (j + 1))), (0, .ref w), (1, .ref r)] dX4_writeObjects_57 0 rfl rfl rfl (Nat.le_of_ble_eq_true rfl) rfl ?_
        refine aw_goto 8 dX4_writeObjects_60 (by decide) ?_
        exact q
      · clear h3
        rw [cw] at q ⊢
        refine aw_iload_n dX4_writeObjects_8 0 rfl ?_
        refine aw_aload_n dX4_writeObjects_9 2 rfl ?_
        refine aw_getI dX4_writeObjects_10 fl_X4_73 ((sT_emM (nuM M w ms) so 1 (so + 1) l).row ((sT_nuM M w ms).row hR)).1 ((sT_emM (nuM M w ms) so 1 (so + 1) l).row ((sT_nuM M w ms).row hR)).n0 ?_
        refine aw_topE ((congrFun (en_I M ms l hr r0 r2) 1).trans hz) ?_
        refine aw_icmp_geN j (Z t) 63 dX4_writeObjects_13 (by decide) rfl rfl (by omega) (by omega) (fun c1 => absurd c1 (by omega)) (fun c1 => ?_)
        refine aw_aload_n dX4_writeObjects_16 2 rfl ?_
        refine aw_getR (b := r + 1) dX4_writeObjects_17 fl_X4_74 rfl ((sT_emM (nuM M w ms) so 1 (so + 1) l).row ((sT_nuM M w ms).row hR)).1 ((sT_emM (nuM M w ms) so 1 (so + 1) l).row ((sT_nuM M w ms).row hR)).n0 ((sT_emM (nuM M w ms) so 1 (so + 1) l).row ((sT_nuM M w ms).row hR)).2.2.2.1 ?_
        refine aw_iload_n dX4_writeObjects_20 0 rfl ?_
        refine aw_ialdN j dX4_writeObjects_21 ((sT_emM (nuM M w ms) so 1 (so + 1) l).row ((sT_nuM M w ms).row hR)).2.1 ((sT_emM (nuM M w ms) so 1 (so + 1) l).row ((sT_nuM M w ms).row hR)).n1 rfl (by omega) (by first | decide | omega) ?_
        refine aw_topE (((congrFun (en_I M ms l rs r1 r3) j).trans q1).trans (congrArg nI cw)) ?_
        refine aw_bipush (v := 10) dX4_writeObjects_22 (by decide) ?_
        refine aw_icmp_ne 41 dX4_writeObjects_24 (by decide) (fun c2 => ?_) (fun c2 => absurd c2 (by decide))
        refine aw_aload_n dX4_writeObjects_41 1 rfl ?_
        refine aw_aload_n dX4_writeObjects_42 2 rfl ?_
        refine aw_getR (b := r + 1) dX4_writeObjects_43 fl_X4_74 rfl ((sT_emM (nuM M w ms) so 1 (so + 1) l).row ((sT_nuM M w ms).row hR)).1 ((sT_emM (nuM M w ms) so 1 (so + 1) l).row ((sT_nuM M w ms).row hR)).n0 ((sT_emM (nuM M w ms) so 1 (so + 1) l).row ((sT_nuM M w ms).row hR)).2.2.2.1 ?_
        refine aw_iload_n dX4_writeObjects_46 0 rfl ?_
        refine aw_ialdN j dX4_writeObjects_47 ((sT_emM (nuM M w ms) so 1 (so + 1) l).row ((sT_nuM M w ms).row hR)).2.1 ((sT_emM (nuM M w ms) so 1 (so + 1) l).row ((sT_nuM M w ms).row hR)).n1 rfl (by omega) (by first | decide | omega) ?_
        refine aw_topE (((congrFun (en_I M ms l rs r1 r3) j).trans q1).trans (congrArg nI cw)) ?_
        refine aw_aload_n dX4_writeObjects_48 2 rfl ?_
        refine aw_getR (b := r + 2) dX4_writeObjects_49 fl_X4_48 rfl ((sT_emM (nuM M w ms) so 1 (so + 1) l).row ((sT_nuM M w ms).row hR)).1 ((sT_emM (nuM M w ms) so 1 (so + 1) l).row ((sT_nuM M w ms).row hR)).n0 ((sT_emM (nuM M w ms) so 1 (so + 1) l).row ((sT_nuM M w ms).row hR)).2.2.2.2.1 ?_
        refine aw_iload_n dX4_writeObjects_52 0 rfl ?_
        refine aw_laldN j dX4_writeObjects_53 ((sT_emM (nuM M w ms) so 1 (so + 1) l).row ((sT_nuM M w ms).row hR)).2.2.1 ((sT_emM (nuM M w ms) so 1 (so + 1) l).row ((sT_nuM M w ms).row hR)).n2 rfl (by omega) (by first | decide | omega) ?_
        refine aw_toplE (q2.trans rfl) ?_
        refine aw_callVv [.int 9, .long (V t j)] [] (sp_we9 (d := d - 1) (by omega) (V t j) ((sT_nuM M w ms).wr hW) hlen) dX4_writeObjects_54 ml_X4_52 im_X4_writeTagged ((sT_emM (nuM M w ms) so 1 (so + 1) l).wr ((sT_nuM M w ms).wr hW)).1 ((sT_emM (nuM M w ms) so 1 (so + 1) l).wr ((sT_nuM M w ms).wr hW)).2.1 rfl rfl (dl1 (d := d) (by omega)) rfl rfl (Nat.le_of_ble_eq_true rfl) rfl rfl (Nat.zero_le _) (Nat.zero_le _) ?_
        refine aw_iincN j 1 [(2, .int (nI (j + 1))), (0, .ref w), (1, .ref r)] dX4_writeObjects_57 0 rfl rfl rfl (Nat.le_of_ble_eq_true rfl) rfl ?_
        refine aw_goto 8 dX4_writeObjects_60 (by decide) ?_
        exact q
      · clear h3
        rw [cw] at q ⊢
        refine aw_iload_n dX4_writeObjects_8 0 rfl ?_
        refine aw_aload_n dX4_writeObjects_9 2 rfl ?_
        refine aw_getI dX4_writeObjects_10 fl_X4_73 ((sT_emM (nuM M w ms) so 1 (so + 1) l).row ((sT_nuM M w ms).row hR)).1 ((sT_emM (nuM M w ms) so 1 (so + 1) l).row ((sT_nuM M w ms).row hR)).n0 ?_
        refine aw_topE ((congrFun (en_I M ms l hr r0 r2) 1).trans hz) ?_
        refine aw_icmp_geN j (Z t) 63 dX4_writeObjects_13 (by decide) rfl rfl (by omega) (by omega) (fun c1 => absurd c1 (by omega)) (fun c1 => ?_)
        refine aw_aload_n dX4_writeObjects_16 2 rfl ?_
        refine aw_getR (b := r + 1) dX4_writeObjects_17 fl_X4_74 rfl ((sT_emM (nuM M w ms) so 1 (so + 1) l).row ((sT_nuM M w ms).row hR)).1 ((sT_emM (nuM M w ms) so 1 (so + 1) l).row ((sT_nuM M w ms).row hR)).n0 ((sT_emM (nuM M w ms) so 1 (so + 1) l).row ((sT_nuM M w ms).row hR)).2.2.2.1 ?_
        refine aw_iload_n dX4_writeObjects_20 0 rfl ?_
        refine aw_ialdN j dX4_writeObjects_21 ((sT_emM (nuM M w ms) so 1 (so + 1) l).row ((sT_nuM M w ms).row hR)).2.1 ((sT_emM (nuM M w ms) so 1 (so + 1) l).row ((sT_nuM M w ms).row hR)).n1 rfl (by omega) (by first | decide | omega) ?_
        refine aw_topE (((congrFun (en_I M ms l rs r1 r3) j).trans q1).trans (congrArg nI cw)) ?_
        refine aw_bipush (v := 10) dX4_writeObjects_22 (by decide) ?_
        refine aw_icmp_ne 41 dX4_writeObjects_24 (by decide) (fun c2 => ?_) (fun c2 => absurd c2 (by decide))
        refine aw_aload_n dX4_writeObjects_41 1 rfl ?_
        refine aw_aload_n dX4_writeObjects_42 2 rfl ?_
        refine aw_getR (b := r + 1) dX4_writeObjects_43 fl_X4_74 rfl ((sT_emM (nuM M w ms) so 1 (so + 1) l).row ((sT_nuM M w ms).row hR)).1 ((sT_emM (nuM M w ms) so 1 (so + 1) l).row ((sT_nuM M w ms).row hR)).n0 ((sT_emM (nuM M w ms) so 1 (so + 1) l).row ((sT_nuM M w ms).row hR)).2.2.2.1 ?_
        refine aw_iload_n dX4_writeObjects_46 0 rfl ?_
        refine aw_ialdN j dX4_writeObjects_47 ((sT_emM (nuM M w ms) so 1 (so + 1) l).row ((sT_nuM M w ms).row hR)).2.1 ((sT_emM (nuM M w ms) so 1 (so + 1) l).row ((sT_nuM M w ms).row hR)).n1 rfl (by omega) (by first | decide | omega) ?_
        refine aw_topE (((congrFun (en_I M ms l rs r1 r3) j).trans q1).trans (congrArg nI cw)) ?_
        refine aw_aload_n dX4_writeObjects_48 2 rfl ?_
        refine aw_getR (b := r + 2) dX4_writeObjects_49 fl_X4_48 rfl ((sT_emM (nuM M w ms) so 1 (so + 1) l).row ((sT_nuM M w ms).row hR)).1 ((sT_emM (nuM M w ms) so 1 (so + 1) l).row ((sT_nuM M w ms).row hR)).n0 ((sT_emM (nuM M w ms) so 1 (so + 1) l).row ((sT_nuM M w ms).row hR)).2.2.2.2.1 ?_
        refine aw_iload_n dX4_writeObjects_52 0 rfl ?_
        refine aw_laldN j dX4_writeObjects_53 ((sT_emM (nuM M w ms) so 1 (so + 1) l).row ((sT_nuM M w ms).row hR)).2.2.1 ((sT_emM (nuM M w ms) so 1 (so + 1) l).row ((sT_nuM M w ms).row hR)).n2 rfl (by omega) (by first | decide | omega) ?_
        refine aw_toplE (q2.trans rfl) ?_
        refine aw_callVv [.int 11, .long (V t j)] [] (sp_we11 (d := d - 1) (by omega) (V t j) ((sT_nuM M w ms).wr hW) hlen) dX4_writeObjects_54 ml_X4_52 im_X4_writeTagged ((sT_emM (nuM M w ms) so 1 (so + 1) l).wr ((sT_nuM M w ms).wr hW)).1 ((sT_emM (nuM M w ms) so 1 (so + 1) l).wr ((sT_nuM M w ms).wr hW)).2.1 rfl rfl (dl1 (d := d) (by omega)) rfl rfl (Nat.le_of_ble_eq_true rfl) rfl rfl (Nat.zero_le _) (Nat.zero_le _) ?_
        refine aw_iincN j 1 [(2, .int (nI (j + 1))), (0, .ref w), (1, .ref r)] dX4_writeObjects_57 0 rfl rfl rfl (Nat.le_of_ble_eq_true rfl) rfl ?_
        refine aw_goto 8 dX4_writeObjects_60 (by decide) ?_
        exact q
      · clear h3
        refine aw_iload_n dX4_writeObjects_8 0 rfl ?_
        refine aw_aload_n dX4_writeObjects_9 2 rfl ?_
        refine aw_getI dX4_writeObjects_10 fl_X4_73 ((sT_emM (nuM M w ms) so 1 (so + 1) l).row ((sT_nuM M w ms).row hR)).1 ((sT_emM (nuM M w ms) so 1 (so + 1) l).row ((sT_nuM M w ms).row hR)).n0 ?_
        refine aw_topE ((congrFun (en_I M ms l hr r0 r2) 1).trans hz) ?_
        refine aw_icmp_geN j (Z t) 63 dX4_writeObjects_13 (by decide) rfl rfl (by omega) (by omega) (fun c1 => absurd c1 (by omega)) (fun c1 => ?_)
        refine aw_aload_n dX4_writeObjects_16 2 rfl ?_
        refine aw_getR (b := r + 1) dX4_writeObjects_17 fl_X4_74 rfl ((sT_emM (nuM M w ms) so 1 (so + 1) l).row ((sT_nuM M w ms).row hR)).1 ((sT_emM (nuM M w ms) so 1 (so + 1) l).row ((sT_nuM M w ms).row hR)).n0 ((sT_emM (nuM M w ms) so 1 (so + 1) l).row ((sT_nuM M w ms).row hR)).2.2.2.1 ?_
        refine aw_iload_n dX4_writeObjects_20 0 rfl ?_
        refine aw_ialdN j dX4_writeObjects_21 ((sT_emM (nuM M w ms) so 1 (so + 1) l).row ((sT_nuM M w ms).row hR)).2.1 ((sT_emM (nuM M w ms) so 1 (so + 1) l).row ((sT_nuM M w ms).row hR)).n1 rfl (by omega) (by first | decide | omega) ?_
        refine aw_topE (((congrFun (en_I M ms l rs r1 r3) j).trans q1).trans rfl) ?_
        refine aw_bipush (v := 10) dX4_writeObjects_22 (by decide) ?_
        refine aw_icmp_neN (W t j) 10 41 dX4_writeObjects_24 (by decide) rfl rfl (by omega) (by omega) (fun c2 => ?_) (fun c2 => absurd c2 (by omega))
        refine aw_aload_n dX4_writeObjects_41 1 rfl ?_
        refine aw_aload_n dX4_writeObjects_42 2 rfl ?_
        refine aw_getR (b := r + 1) dX4_writeObjects_43 fl_X4_74 rfl ((sT_emM (nuM M w ms) so 1 (so + 1) l).row ((sT_nuM M w ms).row hR)).1 ((sT_emM (nuM M w ms) so 1 (so + 1) l).row ((sT_nuM M w ms).row hR)).n0 ((sT_emM (nuM M w ms) so 1 (so + 1) l).row ((sT_nuM M w ms).row hR)).2.2.2.1 ?_
        refine aw_iload_n dX4_writeObjects_46 0 rfl ?_
        refine aw_ialdN j dX4_writeObjects_47 ((sT_emM (nuM M w ms) so 1 (so + 1) l).row ((sT_nuM M w ms).row hR)).2.1 ((sT_emM (nuM M w ms) so 1 (so + 1) l).row ((sT_nuM M w ms).row hR)).n1 rfl (by omega) (by first | decide | omega) ?_
        refine aw_topE (((congrFun (en_I M ms l rs r1 r3) j).trans q1).trans rfl) ?_
        refine aw_aload_n dX4_writeObjects_48 2 rfl ?_
        refine aw_getR (b := r + 2) dX4_writeObjects_49 fl_X4_48 rfl ((sT_emM (nuM M w ms) so 1 (so + 1) l).row ((sT_nuM M w ms).row hR)).1 ((sT_emM (nuM M w ms) so 1 (so + 1) l).row ((sT_nuM M w ms).row hR)).n0 ((sT_emM (nuM M w ms) so 1 (so + 1) l).row ((sT_nuM M w ms).row hR)).2.2.2.2.1 ?_
        refine aw_iload_n dX4_writeObjects_52 0 rfl ?_
        refine aw_laldN j dX4_writeObjects_53 ((sT_emM (nuM M w ms) so 1 (so + 1) l).row ((sT_nuM M w ms).row hR)).2.2.1 ((sT_emM (nuM M w ms) so 1 (so + 1) l).row ((sT_nuM M w ms).row hR)).n2 rfl (by omega) (by first | decide | omega) ?_
        refine aw_toplE (q2.trans rfl) ?_
        refine aw_callVv [.int (nI (W t j)), .long (V t j)] [] (sp_weN (d := d - 1) (by omega) cw (V t j) ((sT_nuM M w ms).wr hW) hlen) dX4_writeObjects_54 ml_X4_52 im_X4_writeTagged ((sT_emM (nuM M w ms) so 1 (so + 1) l).wr ((sT_nuM M w ms).wr hW)).1 ((sT_emM (nuM M w ms) so 1 (so + 1) l).wr ((sT_nuM M w ms).wr hW)).2.1 rfl rfl (dl1 (d := d) (by omega)) rfl rfl (Nat.le_of_ble_eq_true rfl) rfl rfl (Nat.zero_le _) (Nat.zero_le _) ?_
        refine aw_iincN j 1 [(2, .int (nI (j + 1))), (0, .ref w), (1, .ref r)] dX4_writeObjects_57 0 rfl rfl rfl (Nat.le_of_ble_eq_true rfl) rfl ?_
        refine aw_goto 8 dX4_writeObjects_60 (by decide) ?_
        exact q
theorem sp_wo {d : Nat} (hd : 4 + 1 ≤ d) {M : xM} {w rw so r t N : Nat} {K Z : Nat → Nat} {W : Nat → Nat → Nat} {V : Nat → Nat → Int64} {F : Nat → List Nat → List Int32 × List Nat} (hI : ∀ u ms, u < 12 → K u < 14 → msOk ms → msOk (F u ms).2 ∧ ms.length ≤ (F u ms).2.length ∧ (F u ms).1.length + 122 * ms.length ≤ 122 * (F u ms).2.length + 2) (hA : ∀ u ms l, u < 12 → K u < 14 → msOk ms → N ≤ ms.length → l.length ≤ 122 * ms.length → (u ∈ ms → l.length + 2 ≤ 122 * ms.length) → Sp (fX4_writeArray (d - 1)) [.ref w, .int (nI u)] (emM (nuM M w ms) so 1 (so + 1) l) (dt none (emM (nuM M w ((F u ms).2)) so 1 (so + 1) (l ++ (F u ms).1)))) (hL : lkOk K Z W V) (ht : t < 12) (hkt : K t < 14) (hW : WrAt M w rw so) (hw : so + 1 < w) (hR : RowAt M r) (hr : so + 1 < r) (hrw : r + 2 < w ∨ w + 1 < r) (hz : mI M r 1 = nI (Z t)) (hc : ∀ j, j < Z t → mI M (r + 1) j = nI (W t j) ∧ mL M (r + 2) j = V t j) (hk : mI M r 0 = nI (K t)) (ms : List Nat) (l : List Int32) (hm : msOk ms) (hN : N ≤ ms.length) (hl : l.length + 122 ≤ 122 * ms.length) : Sp (fX4_writeObjects d) [.ref w, .ref r] (emM (nuM M w ms) so 1 (so + 1) l) (dt none (emM (nuM M w ((ceB F (W t) (V t) (Z t) 0 ms).2)) so 1 (so + 1) (l ++ ([nI (16 + K t), nI (Z t)] ++ (ceB F (W t) (V t) (Z t) 0 ms).1)))) := by
  refine Sp.of pn_X4 (Nat.le_of_ble_eq_true rfl) (fun h => Bool.noConfusion h) ?_
  have hz2 := (hL t ht hkt).1
  have hml := ms_len hm
  have q := lp_wo hd hI hA hL ht hkt hW hw hR hr hrw hz hc (Z t) 0 ms (l ++ [nI (16 * (0 + 1) + K t), nI (Z t)]) (by omega) hm hN (by rw [List.length_append, List.length_cons, List.length_cons, List.length_nil]; omega)
  rw [List.append_assoc] at q
  refine aw_aload_n dX4_writeObjects_0 0 rfl ?_
  refine aw_iconst (v := 0) dX4_writeObjects_1 (by decide) ?_
  refine aw_aload_n dX4_writeObjects_2 1 rfl ?_
  refine aw_callVv [.int 0, .ref r] [] (sp_wh (d := d - 1) (by omega) (l := l) 0 (K t) (Z t) ((sT_nuM M w ms).wr hW) ((sT_nuM M w ms).row hR) hr ((congrFun (nuM_I M ms (show r ≠ w by omega) (show r ≠ w + 1 by omega)) 0).trans hk) ((congrFun (nuM_I M ms (show r ≠ w by omega) (show r ≠ w + 1 by omega)) 1).trans hz) (by omega)) dX4_writeObjects_3 ml_X4_69 im_X4_writeHead ((sT_emM (nuM M w ms) so 1 (so + 1) l).wr ((sT_nuM M w ms).wr hW)).1 ((sT_emM (nuM M w ms) so 1 (so + 1) l).wr ((sT_nuM M w ms).wr hW)).2.1 rfl rfl (dl1 (d := d) (by omega)) rfl rfl (Nat.le_of_ble_eq_true rfl) rfl rfl (Nat.zero_le _) (Nat.zero_le _) ?_
  refine aw_iconst (v := 0) dX4_writeObjects_6 (by decide) ?_
  refine aw_istore_n [(2, .int 0), (0, .ref w), (1, .ref r)] dX4_writeObjects_7 (Nat.le_of_ble_eq_true rfl) rfl ?_
  exact q
theorem sp_wAo {d : Nat} (hd : 1 ≤ d) {M : xM} {w rw so t : Nat} (hW : WrAt M w rw so) (hw : so + 1 < w) (ms : List Nat) (l : List Int32) (ht : t < 12) (hm : msOk ms) (hn : t ∈ ms) (hl : l.length + 2 ≤ 122 * ms.length) : Sp (fX4_writeArray d) [.ref w, .int (nI t)] (emM (nuM M w ms) so 1 (so + 1) l) (dt none (emM (nuM M w ms) so 1 (so + 1) (l ++ [10, nI (ms.idxOf t)]))) := by
  refine Sp.of pn_X4 (Nat.le_of_ble_eq_true rfl) (fun h => Bool.noConfusion h) ?_
  have hml := ms_len hm
  have hix := List.idxOf_lt_length_of_mem hn
  refine aw_aload_n dX4_writeArray_0 0 rfl ?_
  refine aw_getR (b := w + 1) dX4_writeArray_1 fl_X4_9 rfl ((sT_emM (nuM M w ms) so 1 (so + 1) l).wr ((sT_nuM M w ms).wr hW)).1 ((sT_emM (nuM M w ms) so 1 (so + 1) l).wr ((sT_nuM M w ms).wr hW)).2.1 ((sT_emM (nuM M w ms) so 1 (so + 1) l).wr ((sT_nuM M w ms).wr hW)).2.2.2.2.1 ?_
  refine aw_iload_n dX4_writeArray_4 1 rfl ?_
  refine aw_ialdN t dX4_writeArray_5 ((sT_emM (nuM M w ms) so 1 (so + 1) l).wr ((sT_nuM M w ms).wr hW)).2.2.2.2.2.1 ((sT_emM (nuM M w ms) so 1 (so + 1) l).wr ((sT_nuM M w ms).wr hW)).2.2.2.2.2.2.1 rfl (by omega) (by first | decide | omega) ?_
  refine aw_topE ((en_a M ms l hw ht).trans (if_pos hn)) ?_
  refine aw_if_lt 32 dX4_writeArray_6 (by decide) (fun c1 => absurd c1 (nI_nn (by omega))) (fun c1 => ?_)
  refine aw_aload_n dX4_writeArray_9 0 rfl ?_
  refine aw_getR (b := so) dX4_writeArray_10 fl_X4_26 rfl ((sT_emM (nuM M w ms) so 1 (so + 1) l).wr ((sT_nuM M w ms).wr hW)).1 ((sT_emM (nuM M w ms) so 1 (so + 1) l).wr ((sT_nuM M w ms).wr hW)).2.1 ((sT_emM (nuM M w ms) so 1 (so + 1) l).wr ((sT_nuM M w ms).wr hW)).2.2.2.1 ?_
  refine aw_bipush (v := 10) dX4_writeArray_13 (by decide) ?_
  refine aw_callVv [.int 10] [] (sp_add (d := d - 1) (by omega) (l := l) 10 ((sT_nuM M w ms).wr hW).2.2.2.2.2.2.2.1 (by first | omega | (simp only [List.length_append, List.length_cons, List.length_nil, byB_len] at *; omega))) dX4_writeArray_15 ml_X4_56 im_X3_add ((sT_emM (nuM M w ms) so 1 (so + 1) l).wr ((sT_nuM M w ms).wr hW)).2.2.2.2.2.2.2.1.1 ((sT_emM (nuM M w ms) so 1 (so + 1) l).wr ((sT_nuM M w ms).wr hW)).2.2.2.2.2.2.2.1.n0 rfl rfl (dl1 (d := d) (by omega)) rfl rfl (Nat.le_of_ble_eq_true rfl) rfl rfl (Nat.zero_le _) (Nat.zero_le _) ?_
  refine aw_aload_n dX4_writeArray_18 0 rfl ?_
  refine aw_getR (b := so) dX4_writeArray_19 fl_X4_26 rfl ((sT_emM (nuM M w ms) so 1 (so + 1) (l ++ [10])).wr ((sT_nuM M w ms).wr hW)).1 ((sT_emM (nuM M w ms) so 1 (so + 1) (l ++ [10])).wr ((sT_nuM M w ms).wr hW)).2.1 ((sT_emM (nuM M w ms) so 1 (so + 1) (l ++ [10])).wr ((sT_nuM M w ms).wr hW)).2.2.2.1 ?_
  refine aw_aload_n dX4_writeArray_22 0 rfl ?_
  refine aw_getR (b := w + 1) dX4_writeArray_23 fl_X4_9 rfl ((sT_emM (nuM M w ms) so 1 (so + 1) (l ++ [10])).wr ((sT_nuM M w ms).wr hW)).1 ((sT_emM (nuM M w ms) so 1 (so + 1) (l ++ [10])).wr ((sT_nuM M w ms).wr hW)).2.1 ((sT_emM (nuM M w ms) so 1 (so + 1) (l ++ [10])).wr ((sT_nuM M w ms).wr hW)).2.2.2.2.1 ?_
  refine aw_iload_n dX4_writeArray_26 1 rfl ?_
  refine aw_ialdN t dX4_writeArray_27 ((sT_emM (nuM M w ms) so 1 (so + 1) (l ++ [10])).wr ((sT_nuM M w ms).wr hW)).2.2.2.2.2.1 ((sT_emM (nuM M w ms) so 1 (so + 1) (l ++ [10])).wr ((sT_nuM M w ms).wr hW)).2.2.2.2.2.2.1 rfl (by omega) (by first | decide | omega) ?_
  refine aw_topE ((en_a M ms (l ++ [10]) hw ht).trans (if_pos hn)) ?_
  refine aw_callVv [.int (nI (ms.idxOf t))] [] (sp_add (d := d - 1) (by omega) (l := l ++ [10]) (nI (ms.idxOf t)) ((sT_nuM M w ms).wr hW).2.2.2.2.2.2.2.1 (by first | omega | (simp only [List.length_append, List.length_cons, List.length_nil, byB_len] at *; omega))) dX4_writeArray_28 ml_X4_56 im_X3_add ((sT_emM (nuM M w ms) so 1 (so + 1) (l ++ [10])).wr ((sT_nuM M w ms).wr hW)).2.2.2.2.2.2.2.1.1 ((sT_emM (nuM M w ms) so 1 (so + 1) (l ++ [10])).wr ((sT_nuM M w ms).wr hW)).2.2.2.2.2.2.2.1.n0 rfl rfl (dl1 (d := d) (by omega)) rfl rfl (Nat.le_of_ble_eq_true rfl) rfl rfl (Nat.zero_le _) (Nat.zero_le _) ?_
  refine aw_ret dX4_writeArray_31 rfl (Nat.zero_le _) (Nat.zero_le _) ?_
  exact ⟨rfl, by rw [List.append_assoc]; rfl⟩
theorem sp_wAnp {d : Nat} (hd : 3 ≤ d) {M M2 : xM} {w rw so t r K : Nat} (hW : WrAt M w rw so) (hw : so + 1 < w) (ms : List Nat) (l : List Int32) (ht : t < 12) (hm : msOk ms) (hn : t ∉ ms) (hrt : mR M rw t = some r) (hR : RowAt M r) (hr : so + 1 < r) (hrw : r + 2 < w ∨ w + 1 < r) (hK : K < 14) (hk : mI M r 0 = nI K) (hk8 : K < 8) (hC : Sp (fX4_writePrimitive (d - 1)) [.ref w, .ref r] (emM (nuM M w (ms ++ [t])) so 1 (so + 1) l) (dt none M2)) : Sp (fX4_writeArray d) [.ref w, .int (nI t)] (emM (nuM M w ms) so 1 (so + 1) l) (dt none M2) := by
  refine Sp.of pn_X4 (Nat.le_of_ble_eq_true rfl) (fun h => Bool.noConfusion h) ?_
  have hml := ms_lt hm ht hn
  have hip : sX2_isPrimitive (emM (nuM M w (ms ++ [t])) so 1 (so + 1) l) r = decide (K < 8) := prim_k hK ((congrFun (en_I M (ms ++ [t]) l hr (show r ≠ w by omega) (show r ≠ w + 1 by omega)) 0).trans hk)
  refine aw_aload_n dX4_writeArray_0 0 rfl ?_
  refine aw_getR (b := w + 1) dX4_writeArray_1 fl_X4_9 rfl ((sT_emM (nuM M w ms) so 1 (so + 1) l).wr ((sT_nuM M w ms).wr hW)).1 ((sT_emM (nuM M w ms) so 1 (so + 1) l).wr ((sT_nuM M w ms).wr hW)).2.1 ((sT_emM (nuM M w ms) so 1 (so + 1) l).wr ((sT_nuM M w ms).wr hW)).2.2.2.2.1 ?_
  refine aw_iload_n dX4_writeArray_4 1 rfl ?_
  refine aw_ialdN t dX4_writeArray_5 ((sT_emM (nuM M w ms) so 1 (so + 1) l).wr ((sT_nuM M w ms).wr hW)).2.2.2.2.2.1 ((sT_emM (nuM M w ms) so 1 (so + 1) l).wr ((sT_nuM M w ms).wr hW)).2.2.2.2.2.2.1 rfl (by omega) (by first | decide | omega) ?_
  refine aw_topE ((en_a M ms l hw ht).trans (if_neg hn)) ?_
  refine aw_if_lt 32 dX4_writeArray_6 (by decide) (fun c1 => ?_) (fun c1 => absurd (by decide) c1)
  refine aw_aload_n dX4_writeArray_32 0 rfl ?_
  refine aw_getI dX4_writeArray_33 fl_X4_15 ((sT_emM (nuM M w ms) so 1 (so + 1) l).wr ((sT_nuM M w ms).wr hW)).1 ((sT_emM (nuM M w ms) so 1 (so + 1) l).wr ((sT_nuM M w ms).wr hW)).2.1 ?_
  refine aw_topE (en_w M ms l hw) ?_
  refine aw_bipush (v := 12) dX4_writeArray_36 (by decide) ?_
  refine aw_icmp_ltN ms.length 12 42 dX4_writeArray_38 (by decide) rfl rfl (by omega) (by omega) (fun c2 => ?_) (fun c2 => absurd (by omega) c2)
  refine aw_aload_n dX4_writeArray_42 0 rfl ?_
  refine aw_getR (b := w + 1) dX4_writeArray_43 fl_X4_9 rfl ((sT_emM (nuM M w ms) so 1 (so + 1) l).wr ((sT_nuM M w ms).wr hW)).1 ((sT_emM (nuM M w ms) so 1 (so + 1) l).wr ((sT_nuM M w ms).wr hW)).2.1 ((sT_emM (nuM M w ms) so 1 (so + 1) l).wr ((sT_nuM M w ms).wr hW)).2.2.2.2.1 ?_
  refine aw_iload_n dX4_writeArray_46 1 rfl ?_
  refine aw_aload_n dX4_writeArray_47 0 rfl ?_
  refine aw_getI dX4_writeArray_48 fl_X4_15 ((sT_emM (nuM M w ms) so 1 (so + 1) l).wr ((sT_nuM M w ms).wr hW)).1 ((sT_emM (nuM M w ms) so 1 (so + 1) l).wr ((sT_nuM M w ms).wr hW)).2.1 ?_
  refine aw_topE (en_w M ms l hw) ?_
  refine aw_iastN t dX4_writeArray_51 ((sT_emM (nuM M w ms) so 1 (so + 1) l).wr ((sT_nuM M w ms).wr hW)).2.2.2.2.2.1 ((sT_emM (nuM M w ms) so 1 (so + 1) l).wr ((sT_nuM M w ms).wr hW)).2.2.2.2.2.2.1 rfl (by omega) (by first | decide | omega) ?_
  refine aw_aload_n dX4_writeArray_52 0 rfl ?_
  refine aw_dup dX4_writeArray_53 rfl ?_
  refine aw_getI dX4_writeArray_54 fl_X4_15 ((sT_emM (nuM M w ms) so 1 (so + 1) l).wr ((sT_nuM M w ms).wr hW)).1 ((sT_emM (nuM M w ms) so 1 (so + 1) l).wr ((sT_nuM M w ms).wr hW)).2.1 ?_
  refine aw_topE ((congrFun (mI_stI_c _ _ _ (show w ≠ w + 1 by omega)) 3).trans (en_w M ms l hw)) ?_
  refine aw_iconst (v := 1) dX4_writeArray_57 (by decide) ?_
  refine aw_iaddN ms.length 1 dX4_writeArray_58 rfl rfl ?_
  refine aw_putI dX4_writeArray_59 fl_X4_15 (Or.inl rfl) ((sT_emM (nuM M w ms) so 1 (so + 1) l).wr ((sT_nuM M w ms).wr hW)).1 ((sT_emM (nuM M w ms) so 1 (so + 1) l).wr ((sT_nuM M w ms).wr hW)).2.1 ?_
  refine aw_eqM (nuM_s M ms l hw hn ht) ?_
  refine aw_aload_n dX4_writeArray_62 0 rfl ?_
  refine aw_getR (b := rw) dX4_writeArray_63 fl_X4_22 rfl ((sT_emM (nuM M w (ms ++ [t])) so 1 (so + 1) l).wr ((sT_nuM M w (ms ++ [t])).wr hW)).1 ((sT_emM (nuM M w (ms ++ [t])) so 1 (so + 1) l).wr ((sT_nuM M w (ms ++ [t])).wr hW)).2.1 ((sT_emM (nuM M w (ms ++ [t])) so 1 (so + 1) l).wr ((sT_nuM M w (ms ++ [t])).wr hW)).2.2.1 ?_
  refine aw_iload_n dX4_writeArray_66 1 rfl ?_
  refine aw_aaldN t r dX4_writeArray_67 ((sT_emM (nuM M w (ms ++ [t])) so 1 (so + 1) l).wr ((sT_nuM M w (ms ++ [t])).wr hW)).2.2.2.2.2.2.2.2.1 ((sT_emM (nuM M w (ms ++ [t])) so 1 (so + 1) l).wr ((sT_nuM M w (ms ++ [t])).wr hW)).2.2.2.2.2.2.2.2.2 rfl (by omega) (by first | decide | omega) hrt ?_
  refine aw_astore_n [(2, .ref r), (0, .ref w), (1, .int (nI t))] dX4_writeArray_68 (Nat.le_of_ble_eq_true rfl) rfl ?_
  refine aw_aload_n dX4_writeArray_69 0 rfl ?_
  refine aw_callVi [] [] (sp_X2_isPrimitive (d := d - 1) (by omega) (a := r) ((sT_emM (nuM M w (ms ++ [t])) so 1 (so + 1) l).row ((sT_nuM M w (ms ++ [t])).row hR))) dX4_writeArray_70 ml_X4_59 im_X2_isPrimitive ((sT_emM (nuM M w (ms ++ [t])) so 1 (so + 1) l).row ((sT_nuM M w (ms ++ [t])).row hR)).1 ((sT_emM (nuM M w (ms ++ [t])) so 1 (so + 1) l).row ((sT_nuM M w (ms ++ [t])).row hR)).n0 rfl rfl (dl1 (d := d) (by omega)) rfl rfl (Nat.le_of_ble_eq_true rfl) rfl rfl (Nat.zero_le _) (Nat.zero_le _) ?_
  refine aw_if_eq 84 dX4_writeArray_73 (by decide) (fun c3 => absurd c3 (bz_n0.mpr (hip.trans (decide_eq_true hk8)))) (fun c3 => ?_)
  refine aw_aload_n dX4_writeArray_76 1 rfl ?_
  refine aw_aload_n dX4_writeArray_77 0 rfl ?_
  refine aw_callVv [.ref r] [] hC dX4_writeArray_78 ml_X4_62 im_X4_writePrimitive ((sT_emM (nuM M w (ms ++ [t])) so 1 (so + 1) l).wr ((sT_nuM M w (ms ++ [t])).wr hW)).1 ((sT_emM (nuM M w (ms ++ [t])) so 1 (so + 1) l).wr ((sT_nuM M w (ms ++ [t])).wr hW)).2.1 rfl rfl (dl1 (d := d) (by omega)) rfl rfl (Nat.le_of_ble_eq_true rfl) rfl rfl (Nat.zero_le _) (Nat.zero_le _) ?_
  refine aw_goto 89 dX4_writeArray_81 (by decide) ?_
  refine aw_ret dX4_writeArray_89 rfl (Nat.zero_le _) (Nat.zero_le _) ?_
  exact ⟨rfl, rfl⟩
theorem sp_wAno {d : Nat} (hd : 3 ≤ d) {M M2 : xM} {w rw so t r K : Nat} (hW : WrAt M w rw so) (hw : so + 1 < w) (ms : List Nat) (l : List Int32) (ht : t < 12) (hm : msOk ms) (hn : t ∉ ms) (hrt : mR M rw t = some r) (hR : RowAt M r) (hr : so + 1 < r) (hrw : r + 2 < w ∨ w + 1 < r) (hK : K < 14) (hk : mI M r 0 = nI K) (hk8 : ¬ K < 8) (hC : Sp (fX4_writeObjects (d - 1)) [.ref w, .ref r] (emM (nuM M w (ms ++ [t])) so 1 (so + 1) l) (dt none M2)) : Sp (fX4_writeArray d) [.ref w, .int (nI t)] (emM (nuM M w ms) so 1 (so + 1) l) (dt none M2) := by
  refine Sp.of pn_X4 (Nat.le_of_ble_eq_true rfl) (fun h => Bool.noConfusion h) ?_
  have hml := ms_lt hm ht hn
  have hip : sX2_isPrimitive (emM (nuM M w (ms ++ [t])) so 1 (so + 1) l) r = decide (K < 8) := prim_k hK ((congrFun (en_I M (ms ++ [t]) l hr (show r ≠ w by omega) (show r ≠ w + 1 by omega)) 0).trans hk)
  refine aw_aload_n dX4_writeArray_0 0 rfl ?_
  refine aw_getR (b := w + 1) dX4_writeArray_1 fl_X4_9 rfl ((sT_emM (nuM M w ms) so 1 (so + 1) l).wr ((sT_nuM M w ms).wr hW)).1 ((sT_emM (nuM M w ms) so 1 (so + 1) l).wr ((sT_nuM M w ms).wr hW)).2.1 ((sT_emM (nuM M w ms) so 1 (so + 1) l).wr ((sT_nuM M w ms).wr hW)).2.2.2.2.1 ?_
  refine aw_iload_n dX4_writeArray_4 1 rfl ?_
  refine aw_ialdN t dX4_writeArray_5 ((sT_emM (nuM M w ms) so 1 (so + 1) l).wr ((sT_nuM M w ms).wr hW)).2.2.2.2.2.1 ((sT_emM (nuM M w ms) so 1 (so + 1) l).wr ((sT_nuM M w ms).wr hW)).2.2.2.2.2.2.1 rfl (by omega) (by first | decide | omega) ?_
  refine aw_topE ((en_a M ms l hw ht).trans (if_neg hn)) ?_
  refine aw_if_lt 32 dX4_writeArray_6 (by decide) (fun c1 => ?_) (fun c1 => absurd (by decide) c1)
  refine aw_aload_n dX4_writeArray_32 0 rfl ?_
  refine aw_getI dX4_writeArray_33 fl_X4_15 ((sT_emM (nuM M w ms) so 1 (so + 1) l).wr ((sT_nuM M w ms).wr hW)).1 ((sT_emM (nuM M w ms) so 1 (so + 1) l).wr ((sT_nuM M w ms).wr hW)).2.1 ?_
  refine aw_topE (en_w M ms l hw) ?_
  refine aw_bipush (v := 12) dX4_writeArray_36 (by decide) ?_
  refine aw_icmp_ltN ms.length 12 42 dX4_writeArray_38 (by decide) rfl rfl (by omega) (by omega) (fun c2 => ?_) (fun c2 => absurd (by omega) c2)
  refine aw_aload_n dX4_writeArray_42 0 rfl ?_
  refine aw_getR (b := w + 1) dX4_writeArray_43 fl_X4_9 rfl ((sT_emM (nuM M w ms) so 1 (so + 1) l).wr ((sT_nuM M w ms).wr hW)).1 ((sT_emM (nuM M w ms) so 1 (so + 1) l).wr ((sT_nuM M w ms).wr hW)).2.1 ((sT_emM (nuM M w ms) so 1 (so + 1) l).wr ((sT_nuM M w ms).wr hW)).2.2.2.2.1 ?_
  refine aw_iload_n dX4_writeArray_46 1 rfl ?_
  refine aw_aload_n dX4_writeArray_47 0 rfl ?_
  refine aw_getI dX4_writeArray_48 fl_X4_15 ((sT_emM (nuM M w ms) so 1 (so + 1) l).wr ((sT_nuM M w ms).wr hW)).1 ((sT_emM (nuM M w ms) so 1 (so + 1) l).wr ((sT_nuM M w ms).wr hW)).2.1 ?_
  refine aw_topE (en_w M ms l hw) ?_
  refine aw_iastN t dX4_writeArray_51 ((sT_emM (nuM M w ms) so 1 (so + 1) l).wr ((sT_nuM M w ms).wr hW)).2.2.2.2.2.1 ((sT_emM (nuM M w ms) so 1 (so + 1) l).wr ((sT_nuM M w ms).wr hW)).2.2.2.2.2.2.1 rfl (by omega) (by first | decide | omega) ?_
  refine aw_aload_n dX4_writeArray_52 0 rfl ?_
  refine aw_dup dX4_writeArray_53 rfl ?_
  refine aw_getI dX4_writeArray_54 fl_X4_15 ((sT_emM (nuM M w ms) so 1 (so + 1) l).wr ((sT_nuM M w ms).wr hW)).1 ((sT_emM (nuM M w ms) so 1 (so + 1) l).wr ((sT_nuM M w ms).wr hW)).2.1 ?_
  refine aw_topE ((congrFun (mI_stI_c _ _ _ (show w ≠ w + 1 by omega)) 3).trans (en_w M ms l hw)) ?_
  refine aw_iconst (v := 1) dX4_writeArray_57 (by decide) ?_
  refine aw_iaddN ms.length 1 dX4_writeArray_58 rfl rfl ?_
  refine aw_putI dX4_writeArray_59 fl_X4_15 (Or.inl rfl) ((sT_emM (nuM M w ms) so 1 (so + 1) l).wr ((sT_nuM M w ms).wr hW)).1 ((sT_emM (nuM M w ms) so 1 (so + 1) l).wr ((sT_nuM M w ms).wr hW)).2.1 ?_
  refine aw_eqM (nuM_s M ms l hw hn ht) ?_
  refine aw_aload_n dX4_writeArray_62 0 rfl ?_
  refine aw_getR (b := rw) dX4_writeArray_63 fl_X4_22 rfl ((sT_emM (nuM M w (ms ++ [t])) so 1 (so + 1) l).wr ((sT_nuM M w (ms ++ [t])).wr hW)).1 ((sT_emM (nuM M w (ms ++ [t])) so 1 (so + 1) l).wr ((sT_nuM M w (ms ++ [t])).wr hW)).2.1 ((sT_emM (nuM M w (ms ++ [t])) so 1 (so + 1) l).wr ((sT_nuM M w (ms ++ [t])).wr hW)).2.2.1 ?_
  refine aw_iload_n dX4_writeArray_66 1 rfl ?_
  refine aw_aaldN t r dX4_writeArray_67 ((sT_emM (nuM M w (ms ++ [t])) so 1 (so + 1) l).wr ((sT_nuM M w (ms ++ [t])).wr hW)).2.2.2.2.2.2.2.2.1 ((sT_emM (nuM M w (ms ++ [t])) so 1 (so + 1) l).wr ((sT_nuM M w (ms ++ [t])).wr hW)).2.2.2.2.2.2.2.2.2 rfl (by omega) (by first | decide | omega) hrt ?_
  refine aw_astore_n [(2, .ref r), (0, .ref w), (1, .int (nI t))] dX4_writeArray_68 (Nat.le_of_ble_eq_true rfl) rfl ?_
  refine aw_aload_n dX4_writeArray_69 0 rfl ?_
  refine aw_callVi [] [] (sp_X2_isPrimitive (d := d - 1) (by omega) (a := r) ((sT_emM (nuM M w (ms ++ [t])) so 1 (so + 1) l).row ((sT_nuM M w (ms ++ [t])).row hR))) dX4_writeArray_70 ml_X4_59 im_X2_isPrimitive ((sT_emM (nuM M w (ms ++ [t])) so 1 (so + 1) l).row ((sT_nuM M w (ms ++ [t])).row hR)).1 ((sT_emM (nuM M w (ms ++ [t])) so 1 (so + 1) l).row ((sT_nuM M w (ms ++ [t])).row hR)).n0 rfl rfl (dl1 (d := d) (by omega)) rfl rfl (Nat.le_of_ble_eq_true rfl) rfl rfl (Nat.zero_le _) (Nat.zero_le _) ?_
  refine aw_if_eq 84 dX4_writeArray_73 (by decide) (fun c3 => ?_) (fun c3 => absurd (bz_0.mpr (hip.trans (decide_eq_false hk8))) c3)
  refine aw_aload_n dX4_writeArray_84 1 rfl ?_
  refine aw_aload_n dX4_writeArray_85 0 rfl ?_
  refine aw_callVv [.ref r] [] hC dX4_writeArray_86 ml_X4_66 im_X4_writeObjects ((sT_emM (nuM M w (ms ++ [t])) so 1 (so + 1) l).wr ((sT_nuM M w (ms ++ [t])).wr hW)).1 ((sT_emM (nuM M w (ms ++ [t])) so 1 (so + 1) l).wr ((sT_nuM M w (ms ++ [t])).wr hW)).2.1 rfl rfl (dl1 (d := d) (by omega)) rfl rfl (Nat.le_of_ble_eq_true rfl) rfl rfl (Nat.zero_le _) (Nat.zero_le _) ?_
  refine aw_ret dX4_writeArray_89 rfl (Nat.zero_le _) (Nat.zero_le _) ?_
  exact ⟨rfl, rfl⟩
theorem sp_wA {M : xM} {w rw so m : Nat} {K Z : Nat → Nat} {W : Nat → Nat → Nat} {V : Nat → Nat → Int64} (hD : WrD M w rw so m K Z W V) : ∀ (g d t : Nat) (ms : List Nat) (l : List Int32), 3 * g + 9 ≤ d → t < 12 → K t < 14 → msOk ms → 12 ≤ ms.length + g → l.length ≤ 122 * ms.length → (t ∈ ms → l.length + 2 ≤ 122 * ms.length) → Sp (fX4_writeArray d) [.ref w, .int (nI t)] (emM (nuM M w ms) so 1 (so + 1) l) (dt none (emM (nuM M w ((wA m K Z W V g t ms).2)) so 1 (so + 1) (l ++ (wA m K Z W V g t ms).1))) := by
  obtain ⟨hW, hw, hm3, hf, hL, hrows⟩ := hD
  intro g
  induction g with
  | zero =>
    intro d t ms l hd ht hk hm hg hl hl2
    by_cases hn : t ∈ ms
    · rw [show wA m K Z W V 0 t ms = ([10, nI (ms.idxOf t)], ms) from if_pos hn]
      exact sp_wAo (by omega) hW hw ms l ht hm hn (hl2 hn)
    · have := ms_lt hm ht hn
      omega
  | succ g ih =>
    intro d t ms l hd ht hk hm hg hl hl2
    by_cases hn : t ∈ ms
    · rw [show wA m K Z W V (g + 1) t ms = ([10, nI (ms.idxOf t)], ms) from if_pos hn]
      exact sp_wAo (by omega) hW hw ms l ht hm hn (hl2 hn)
    · have hml := ms_lt hm ht hn
      have hm' := ms_add hm ht hn
      have el : (ms ++ [t]).length = ms.length + 1 := by simp
      obtain ⟨r, a1, a2, a3, a4, a5, a6, a7⟩ := hrows t ht hk
      have hz := (hL t ht hk).1
      by_cases c8 : K t < 8
      · rw [show wA m K Z W V (g + 1) t ms = (prB m (K t) (Z t) (V t), ms ++ [t]) from (if_neg hn).trans (if_pos c8)]
        have hN := sT_nuM M w (ms ++ [t])
        refine sp_wAnp (by omega) hW hw ms l ht hm hn a1 a2 a3 a4 hk a5 c8 ?_
        exact sp_wp (d := d - 1) (by omega) hm3 hw ((nuM_o M w _ (by decide)).trans hf) (K t) (Z t) (V t) c8 (hN.wr hW) (hN.row a2) a3 ((congrFun (nuM_I M _ (by omega) (by omega)) 0).trans a5) ((congrFun (nuM_I M _ (by omega) (by omega)) 1).trans a6) hz (fun i hi => (a7 i hi).2) (by omega)
      · rw [show wA m K Z W V (g + 1) t ms = ([nI (16 + K t), nI (Z t)] ++ (ceB (wA m K Z W V g) (W t) (V t) (Z t) 0 (ms ++ [t])).1, (ceB (wA m K Z W V g) (W t) (V t) (Z t) 0 (ms ++ [t])).2) from (if_neg hn).trans (if_neg c8)]
        refine sp_wAno (by omega) hW hw ms l ht hm hn a1 a2 a3 a4 hk a5 c8 ?_
        exact sp_wo (d := d - 1) (N := ms.length + 1) (by omega) (fun u ms' u1 u3 hm2 => ⟨(wA_inv hL g u ms' u1 u3 hm2).1, (wA_inv hL g u ms' u1 u3 hm2).2.1, (wA_inv hL g u ms' u1 u3 hm2).2.2.1⟩) (fun u ms' l' u1 u3 hm2 hN2 hl3 hl4 => ih (d - 1 - 1) u ms' l' (by omega) u1 u3 hm2 (by omega) hl3 hl4) hL ht hk hW hw a2 a3 a4 a6 a7 a5 (ms ++ [t]) l hm' (by omega) (by omega)
