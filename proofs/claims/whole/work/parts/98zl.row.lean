-- THE REFERENCE WRITES ROWS OF NUMBERS
theorem lp_lru {d : Nat} (hd : 3 ≤ d) {M : xM} (k z T : Nat) (V : Nat → Int64) (hT : TR M) (hk8 : k < 8) (hTl : T < 24) (hk : mI M 1 T = nI k) (hz : mI M 2 T = nI z) (hz2 : z ≤ 12) (hV : ∀ i, i < z → mL M 5 (12 * T + i) = V i) (hok : ∀ i, i < z → okN k (V i)) : ∀ (n j b : Nat) (l : List Int32), j + n = z → b < j → l.length + 10 * (n + 1) ≤ 1500 → AW (fX6_laysRuns d) 14 [(3, .int (nI (j - b))), (2, .int (nI b)), (0, .ref 0), (1, .int (nI T))] [] (emM M 0 13 8 l) 0 0 (dt none (emM M 0 13 8 (l ++ ruB k V z (n + 1) j b))) := by
  intro n
  induction n with
  | zero =>
    intro j b l hi hb hl
    have hln := nuC_len hk8 (V b)
    have e : ruB k V z (0 + 1) j b = nI (j - b) :: (nuC k (V b) ++ []) := if_neg (fun z => absurd z.1 (by omega))
    have e2 : l ++ [nI (j - b)] ++ nuC k (V b) = l ++ ruB k V z (0 + 1) j b := by rw [e]; simp
    rw [← e2]
    refine aw_iload_n dX6_laysRuns_14 1 rfl ?_
    refine aw_iload_n dX6_laysRuns_15 0 rfl ?_
    refine aw_iaddN b (j - b) dX6_laysRuns_16 rfl rfl ?_
    refine aw_aload_n dX6_laysRuns_17 2 rfl ?_
    refine aw_getR (b := 2) dX6_laysRuns_18 fl_X6_13 rfl (((sT_emM M 0 13 8 l).TR hT).s 0 (by decide)) (((sT_emM M 0 13 8 l).TR hT).n 0 (by decide)) (((sT_emM M 0 13 8 l).TR hT).r 1) ?_
    refine aw_iload_n dX6_laysRuns_21 3 rfl ?_
    refine aw_ialdN T dX6_laysRuns_22 (((sT_emM M 0 13 8 l).TR hT).s 2 (by decide)) (((sT_emM M 0 13 8 l).TR hT).n 2 (by decide)) rfl (by omega) (by first | decide | omega) ?_
    refine aw_topE ((congrFun (emM_I M l (show (2 : Nat) ≠ 0 by decide) (show (2 : Nat) ≠ 8 by decide)) T).trans hz) ?_
    refine aw_icmp_geN (b + (j - b)) z 60 dX6_laysRuns_23 (by decide) rfl rfl (by omega) (by omega) (fun c1 => ?_) (fun c1 => absurd (by omega) c1)
    refine aw_aload_n dX6_laysRuns_60 2 rfl ?_
    refine aw_iload_n dX6_laysRuns_61 0 rfl ?_
    refine aw_callVv [.int (nI (j - b))] [] (sp_ls (d := d - 1) (by omega) (l := l) (nI (j - b)) hT (by omega)) dX6_laysRuns_62 ml_X6_240 im_X6_lays (((sT_emM M 0 13 8 l).TR hT).s 0 (by decide)) (((sT_emM M 0 13 8 l).TR hT).n 0 (by decide)) rfl rfl (dl1 (d := d) (by omega)) rfl rfl (Nat.le_of_ble_eq_true rfl) rfl rfl (Nat.zero_le _) (Nat.zero_le _) ?_
    refine aw_aload_n dX6_laysRuns_65 2 rfl ?_
    refine aw_aload_n dX6_laysRuns_66 2 rfl ?_
    refine aw_getR (b := 1) dX6_laysRuns_67 fl_X6_7 rfl (((sT_emM M 0 13 8 (l ++ [nI (j - b)])).TR hT).s 0 (by decide)) (((sT_emM M 0 13 8 (l ++ [nI (j - b)])).TR hT).n 0 (by decide)) (((sT_emM M 0 13 8 (l ++ [nI (j - b)])).TR hT).r 0) ?_
    refine aw_iload_n dX6_laysRuns_70 3 rfl ?_
    refine aw_ialdN T dX6_laysRuns_71 (((sT_emM M 0 13 8 (l ++ [nI (j - b)])).TR hT).s 1 (by decide)) (((sT_emM M 0 13 8 (l ++ [nI (j - b)])).TR hT).n 1 (by decide)) rfl (by omega) (by first | decide | omega) ?_
    refine aw_topE ((congrFun (emM_I M (l ++ [nI (j - b)]) (show (1 : Nat) ≠ 0 by decide) (show (1 : Nat) ≠ 8 by decide)) T).trans hk) ?_
    refine aw_aload_n dX6_laysRuns_72 2 rfl ?_
    refine aw_getR (b := 5) dX6_laysRuns_73 fl_X6_23 rfl (((sT_emM M 0 13 8 (l ++ [nI (j - b)])).TR hT).s 0 (by decide)) (((sT_emM M 0 13 8 (l ++ [nI (j - b)])).TR hT).n 0 (by decide)) (((sT_emM M 0 13 8 (l ++ [nI (j - b)])).TR hT).r 4) ?_
    refine aw_bipush (v := 12) dX6_laysRuns_76 (by decide) ?_
    refine aw_iload_n dX6_laysRuns_78 3 rfl ?_
    refine aw_imulN 12 T dX6_laysRuns_79 rfl rfl ?_
    refine aw_iload_n dX6_laysRuns_80 1 rfl ?_
    refine aw_iaddN (12 * T) b dX6_laysRuns_81 rfl rfl ?_
    refine aw_laldN ((12 * T) + b) dX6_laysRuns_82 (((sT_emM M 0 13 8 (l ++ [nI (j - b)])).TR hT).s 5 (by decide)) (((sT_emM M 0 13 8 (l ++ [nI (j - b)])).TR hT).n 5 (by decide)) rfl (by omega) (by first | decide | omega) ?_
    refine aw_toplE (show mL M 5 (((12 * T) + b)) = V b by rw [show ((12 * T) + b) = 12 * T + b by omega]; exact hV b (by omega)) ?_
    refine aw_callVv [.int (nI k), .long (V b)] [] (sp_ln (d := d - 1) (by omega) (l := l ++ [nI (j - b)]) k (V b) hT hk8 (hok b (by omega)) (by rw [List.length_append, List.length_cons, List.length_nil]; omega)) dX6_laysRuns_83 ml_X6_250 im_X6_laysNumber (((sT_emM M 0 13 8 (l ++ [nI (j - b)])).TR hT).s 0 (by decide)) (((sT_emM M 0 13 8 (l ++ [nI (j - b)])).TR hT).n 0 (by decide)) rfl rfl (dl1 (d := d) (by omega)) rfl rfl (Nat.le_of_ble_eq_true rfl) rfl rfl (Nat.zero_le _) (Nat.zero_le _) ?_
    refine aw_iload_n dX6_laysRuns_86 1 rfl ?_
    refine aw_iload_n dX6_laysRuns_87 0 rfl ?_
    refine aw_iaddN b (j - b) dX6_laysRuns_88 rfl rfl ?_
    refine aw_istore_n [(2, .int (nI (b + (j - b)))), (3, .int (nI (j - b))), (0, .ref 0), (1, .int (nI T))] dX6_laysRuns_89 (Nat.le_of_ble_eq_true rfl) rfl ?_
    refine aw_goto 2 dX6_laysRuns_90 (by decide) ?_
    refine aw_iload_n dX6_laysRuns_2 0 rfl ?_
    refine aw_aload_n dX6_laysRuns_3 2 rfl ?_
    refine aw_getR (b := 2) dX6_laysRuns_4 fl_X6_13 rfl (((sT_emM M 0 13 8 (l ++ [nI (j - b)] ++ nuC k (V b))).TR hT).s 0 (by decide)) (((sT_emM M 0 13 8 (l ++ [nI (j - b)] ++ nuC k (V b))).TR hT).n 0 (by decide)) (((sT_emM M 0 13 8 (l ++ [nI (j - b)] ++ nuC k (V b))).TR hT).r 1) ?_
    refine aw_iload_n dX6_laysRuns_7 3 rfl ?_
    refine aw_ialdN T dX6_laysRuns_8 (((sT_emM M 0 13 8 (l ++ [nI (j - b)] ++ nuC k (V b))).TR hT).s 2 (by decide)) (((sT_emM M 0 13 8 (l ++ [nI (j - b)] ++ nuC k (V b))).TR hT).n 2 (by decide)) rfl (by omega) (by first | decide | omega) ?_
    refine aw_topE ((congrFun (emM_I M (l ++ [nI (j - b)] ++ nuC k (V b)) (show (2 : Nat) ≠ 0 by decide) (show (2 : Nat) ≠ 8 by decide)) T).trans hz) ?_
    refine aw_icmp_geN (b + (j - b)) z 93 dX6_laysRuns_9 (by decide) rfl rfl (by omega) (by omega) (fun c2 => ?_) (fun c2 => absurd (by omega) c2)
    refine aw_ret dX6_laysRuns_93 rfl (Nat.zero_le _) (Nat.zero_le _) ?_
    exact ⟨rfl, rfl⟩
  | succ n ih =>
    intro j b l hi hb hl
    have hln := nuC_len hk8 (V b)
    by_cases c : V j = V b
    · rw [show ruB k V z (n + 1 + 1) j b = ruB k V z (n + 1) (j + 1) b from if_pos ⟨by omega, c⟩]
      have g := ih (j + 1) b l (by omega) (by omega) (by omega)
      refine aw_iload_n dX6_laysRuns_14 1 rfl ?_
      refine aw_iload_n dX6_laysRuns_15 0 rfl ?_
      refine aw_iaddN b (j - b) dX6_laysRuns_16 rfl rfl ?_
      refine aw_aload_n dX6_laysRuns_17 2 rfl ?_
      refine aw_getR (b := 2) dX6_laysRuns_18 fl_X6_13 rfl (((sT_emM M 0 13 8 l).TR hT).s 0 (by decide)) (((sT_emM M 0 13 8 l).TR hT).n 0 (by decide)) (((sT_emM M 0 13 8 l).TR hT).r 1) ?_
      refine aw_iload_n dX6_laysRuns_21 3 rfl ?_
      refine aw_ialdN T dX6_laysRuns_22 (((sT_emM M 0 13 8 l).TR hT).s 2 (by decide)) (((sT_emM M 0 13 8 l).TR hT).n 2 (by decide)) rfl (by omega) (by first | decide | omega) ?_
      refine aw_topE ((congrFun (emM_I M l (show (2 : Nat) ≠ 0 by decide) (show (2 : Nat) ≠ 8 by decide)) T).trans hz) ?_
      refine aw_icmp_geN (b + (j - b)) z 60 dX6_laysRuns_23 (by decide) rfl rfl (by omega) (by omega) (fun c1 => absurd c1 (by omega)) (fun c1 => ?_)
      refine aw_aload_n dX6_laysRuns_26 2 rfl ?_
      refine aw_getR (b := 5) dX6_laysRuns_27 fl_X6_23 rfl (((sT_emM M 0 13 8 l).TR hT).s 0 (by decide)) (((sT_emM M 0 13 8 l).TR hT).n 0 (by decide)) (((sT_emM M 0 13 8 l).TR hT).r 4) ?_
      refine aw_bipush (v := 12) dX6_laysRuns_30 (by decide) ?_
      refine aw_iload_n dX6_laysRuns_32 3 rfl ?_
      refine aw_imulN 12 T dX6_laysRuns_33 rfl rfl ?_
      refine aw_iload_n dX6_laysRuns_34 1 rfl ?_
      refine aw_iaddN (12 * T) b dX6_laysRuns_35 rfl rfl ?_
      refine aw_iload_n dX6_laysRuns_36 0 rfl ?_
      refine aw_iaddN ((12 * T) + b) (j - b) dX6_laysRuns_37 rfl rfl ?_
      refine aw_laldN (((12 * T) + b) + (j - b)) dX6_laysRuns_38 (((sT_emM M 0 13 8 l).TR hT).s 5 (by decide)) (((sT_emM M 0 13 8 l).TR hT).n 5 (by decide)) rfl (by omega) (by first | decide | omega) ?_
      refine aw_toplE (show mL M 5 ((((12 * T) + b) + (j - b))) = V j by rw [show (((12 * T) + b) + (j - b)) = 12 * T + j by omega]; exact hV j (by omega)) ?_
      refine aw_aload_n dX6_laysRuns_39 2 rfl ?_
      refine aw_getR (b := 5) dX6_laysRuns_40 fl_X6_23 rfl (((sT_emM M 0 13 8 l).TR hT).s 0 (by decide)) (((sT_emM M 0 13 8 l).TR hT).n 0 (by decide)) (((sT_emM M 0 13 8 l).TR hT).r 4) ?_
      refine aw_bipush (v := 12) dX6_laysRuns_43 (by decide) ?_
      refine aw_iload_n dX6_laysRuns_45 3 rfl ?_
      refine aw_imulN 12 T dX6_laysRuns_46 rfl rfl ?_
      refine aw_iload_n dX6_laysRuns_47 1 rfl ?_
      refine aw_iaddN (12 * T) b dX6_laysRuns_48 rfl rfl ?_
      refine aw_laldN ((12 * T) + b) dX6_laysRuns_49 (((sT_emM M 0 13 8 l).TR hT).s 5 (by decide)) (((sT_emM M 0 13 8 l).TR hT).n 5 (by decide)) rfl (by omega) (by first | decide | omega) ?_
      refine aw_toplE (show mL M 5 (((12 * T) + b)) = V b by rw [show ((12 * T) + b) = 12 * T + b by omega]; exact hV b (by omega)) ?_
      refine aw_lne 60 dX6_laysRuns_50 dX6_laysRuns_51 (by decide) (fun c2 => absurd c c2) (fun c2 => ?_)
      refine aw_iincN (j - b) 1 [(3, .int (nI (j - b + 1))), (2, .int (nI b)), (0, .ref 0), (1, .int (nI T))] dX6_laysRuns_54 0 rfl rfl rfl (Nat.le_of_ble_eq_true rfl) rfl ?_
      refine aw_goto 14 dX6_laysRuns_57 (by decide) ?_
      rw [show j + 1 - b = j - b + 1 by omega] at g
      exact g
    · have e : ruB k V z (n + 1 + 1) j b = nI (j - b) :: (nuC k (V b) ++ ruB k V z (n + 1) (j + 1) j) := if_neg (fun z => c z.2)
      have e2 : l ++ [nI (j - b)] ++ nuC k (V b) ++ ruB k V z (n + 1) (j + 1) j = l ++ ruB k V z (n + 1 + 1) j b := by rw [e]; simp
      have g := ih (j + 1) j (l ++ [nI (j - b)] ++ nuC k (V b)) (by omega) (by omega) (by rw [List.length_append, List.length_append, List.length_cons, List.length_nil]; omega)
      rw [e2, show j + 1 - j = 1 by omega] at g
      refine aw_iload_n dX6_laysRuns_14 1 rfl ?_
      refine aw_iload_n dX6_laysRuns_15 0 rfl ?_
      refine aw_iaddN b (j - b) dX6_laysRuns_16 rfl rfl ?_
      refine aw_aload_n dX6_laysRuns_17 2 rfl ?_
      refine aw_getR (b := 2) dX6_laysRuns_18 fl_X6_13 rfl (((sT_emM M 0 13 8 l).TR hT).s 0 (by decide)) (((sT_emM M 0 13 8 l).TR hT).n 0 (by decide)) (((sT_emM M 0 13 8 l).TR hT).r 1) ?_
      refine aw_iload_n dX6_laysRuns_21 3 rfl ?_
      refine aw_ialdN T dX6_laysRuns_22 (((sT_emM M 0 13 8 l).TR hT).s 2 (by decide)) (((sT_emM M 0 13 8 l).TR hT).n 2 (by decide)) rfl (by omega) (by first | decide | omega) ?_
      refine aw_topE ((congrFun (emM_I M l (show (2 : Nat) ≠ 0 by decide) (show (2 : Nat) ≠ 8 by decide)) T).trans hz) ?_
      refine aw_icmp_geN (b + (j - b)) z 60 dX6_laysRuns_23 (by decide) rfl rfl (by omega) (by omega) (fun c1 => absurd c1 (by omega)) (fun c1 => ?_)
      refine aw_aload_n dX6_laysRuns_26 2 rfl ?_
      refine aw_getR (b := 5) dX6_laysRuns_27 fl_X6_23 rfl (((sT_emM M 0 13 8 l).TR hT).s 0 (by decide)) (((sT_emM M 0 13 8 l).TR hT).n 0 (by decide)) (((sT_emM M 0 13 8 l).TR hT).r 4) ?_
      refine aw_bipush (v := 12) dX6_laysRuns_30 (by decide) ?_
      refine aw_iload_n dX6_laysRuns_32 3 rfl ?_
      refine aw_imulN 12 T dX6_laysRuns_33 rfl rfl ?_
      refine aw_iload_n dX6_laysRuns_34 1 rfl ?_
      refine aw_iaddN (12 * T) b dX6_laysRuns_35 rfl rfl ?_
      refine aw_iload_n dX6_laysRuns_36 0 rfl ?_
      refine aw_iaddN ((12 * T) + b) (j - b) dX6_laysRuns_37 rfl rfl ?_
      refine aw_laldN (((12 * T) + b) + (j - b)) dX6_laysRuns_38 (((sT_emM M 0 13 8 l).TR hT).s 5 (by decide)) (((sT_emM M 0 13 8 l).TR hT).n 5 (by decide)) rfl (by omega) (by first | decide | omega) ?_
      refine aw_toplE (show mL M 5 ((((12 * T) + b) + (j - b))) = V j by rw [show (((12 * T) + b) + (j - b)) = 12 * T + j by omega]; exact hV j (by omega)) ?_
      refine aw_aload_n dX6_laysRuns_39 2 rfl ?_
      refine aw_getR (b := 5) dX6_laysRuns_40 fl_X6_23 rfl (((sT_emM M 0 13 8 l).TR hT).s 0 (by decide)) (((sT_emM M 0 13 8 l).TR hT).n 0 (by decide)) (((sT_emM M 0 13 8 l).TR hT).r 4) ?_
      refine aw_bipush (v := 12) dX6_laysRuns_43 (by decide) ?_
      refine aw_iload_n dX6_laysRuns_45 3 rfl ?_
      refine aw_imulN 12 T dX6_laysRuns_46 rfl rfl ?_
      refine aw_iload_n dX6_laysRuns_47 1 rfl ?_
      refine aw_iaddN (12 * T) b dX6_laysRuns_48 rfl rfl ?_
      refine aw_laldN ((12 * T) + b) dX6_laysRuns_49 (((sT_emM M 0 13 8 l).TR hT).s 5 (by decide)) (((sT_emM M 0 13 8 l).TR hT).n 5 (by decide)) rfl (by omega) (by first | decide | omega) ?_
      refine aw_toplE (show mL M 5 (((12 * T) + b)) = V b by rw [show ((12 * T) + b) = 12 * T + b by omega]; exact hV b (by omega)) ?_
      refine aw_lne 60 dX6_laysRuns_50 dX6_laysRuns_51 (by decide) (fun c2 => ?_) (fun c2 => absurd c2 c)
      refine aw_aload_n dX6_laysRuns_60 2 rfl ?_
      refine aw_iload_n dX6_laysRuns_61 0 rfl ?_
      refine aw_callVv [.int (nI (j - b))] [] (sp_ls (d := d - 1) (by omega) (l := l) (nI (j - b)) hT (by omega)) dX6_laysRuns_62 ml_X6_240 im_X6_lays (((sT_emM M 0 13 8 l).TR hT).s 0 (by decide)) (((sT_emM M 0 13 8 l).TR hT).n 0 (by decide)) rfl rfl (dl1 (d := d) (by omega)) rfl rfl (Nat.le_of_ble_eq_true rfl) rfl rfl (Nat.zero_le _) (Nat.zero_le _) ?_
      refine aw_aload_n dX6_laysRuns_65 2 rfl ?_
      refine aw_aload_n dX6_laysRuns_66 2 rfl ?_
      refine aw_getR (b := 1) dX6_laysRuns_67 fl_X6_7 rfl (((sT_emM M 0 13 8 (l ++ [nI (j - b)])).TR hT).s 0 (by decide)) (((sT_emM M 0 13 8 (l ++ [nI (j - b)])).TR hT).n 0 (by decide)) (((sT_emM M 0 13 8 (l ++ [nI (j - b)])).TR hT).r 0) ?_
      refine aw_iload_n dX6_laysRuns_70 3 rfl ?_
      refine aw_ialdN T dX6_laysRuns_71 (((sT_emM M 0 13 8 (l ++ [nI (j - b)])).TR hT).s 1 (by decide)) (((sT_emM M 0 13 8 (l ++ [nI (j - b)])).TR hT).n 1 (by decide)) rfl (by omega) (by first | decide | omega) ?_
      refine aw_topE ((congrFun (emM_I M (l ++ [nI (j - b)]) (show (1 : Nat) ≠ 0 by decide) (show (1 : Nat) ≠ 8 by decide)) T).trans hk) ?_
      refine aw_aload_n dX6_laysRuns_72 2 rfl ?_
      refine aw_getR (b := 5) dX6_laysRuns_73 fl_X6_23 rfl (((sT_emM M 0 13 8 (l ++ [nI (j - b)])).TR hT).s 0 (by decide)) (((sT_emM M 0 13 8 (l ++ [nI (j - b)])).TR hT).n 0 (by decide)) (((sT_emM M 0 13 8 (l ++ [nI (j - b)])).TR hT).r 4) ?_
      refine aw_bipush (v := 12) dX6_laysRuns_76 (by decide) ?_
      refine aw_iload_n dX6_laysRuns_78 3 rfl ?_
      refine aw_imulN 12 T dX6_laysRuns_79 rfl rfl ?_
      refine aw_iload_n dX6_laysRuns_80 1 rfl ?_
      refine aw_iaddN (12 * T) b dX6_laysRuns_81 rfl rfl ?_
      refine aw_laldN ((12 * T) + b) dX6_laysRuns_82 (((sT_emM M 0 13 8 (l ++ [nI (j - b)])).TR hT).s 5 (by decide)) (((sT_emM M 0 13 8 (l ++ [nI (j - b)])).TR hT).n 5 (by decide)) rfl (by omega) (by first | decide | omega) ?_
      refine aw_toplE (show mL M 5 (((12 * T) + b)) = V b by rw [show ((12 * T) + b) = 12 * T + b by omega]; exact hV b (by omega)) ?_
      refine aw_callVv [.int (nI k), .long (V b)] [] (sp_ln (d := d - 1) (by omega) (l := l ++ [nI (j - b)]) k (V b) hT hk8 (hok b (by omega)) (by rw [List.length_append, List.length_cons, List.length_nil]; omega)) dX6_laysRuns_83 ml_X6_250 im_X6_laysNumber (((sT_emM M 0 13 8 (l ++ [nI (j - b)])).TR hT).s 0 (by decide)) (((sT_emM M 0 13 8 (l ++ [nI (j - b)])).TR hT).n 0 (by decide)) rfl rfl (dl1 (d := d) (by omega)) rfl rfl (Nat.le_of_ble_eq_true rfl) rfl rfl (Nat.zero_le _) (Nat.zero_le _) ?_
      refine aw_iload_n dX6_laysRuns_86 1 rfl ?_
      refine aw_iload_n dX6_laysRuns_87 0 rfl ?_
      refine aw_iaddN b (j - b) dX6_laysRuns_88 rfl rfl ?_
      refine aw_istore_n [(2, .int (nI (b + (j - b)))), (3, .int (nI (j - b))), (0, .ref 0), (1, .int (nI T))] dX6_laysRuns_89 (Nat.le_of_ble_eq_true rfl) rfl ?_
      refine aw_goto 2 dX6_laysRuns_90 (by decide) ?_
      refine aw_iload_n dX6_laysRuns_2 0 rfl ?_
      refine aw_aload_n dX6_laysRuns_3 2 rfl ?_
      refine aw_getR (b := 2) dX6_laysRuns_4 fl_X6_13 rfl (((sT_emM M 0 13 8 (l ++ [nI (j - b)] ++ nuC k (V b))).TR hT).s 0 (by decide)) (((sT_emM M 0 13 8 (l ++ [nI (j - b)] ++ nuC k (V b))).TR hT).n 0 (by decide)) (((sT_emM M 0 13 8 (l ++ [nI (j - b)] ++ nuC k (V b))).TR hT).r 1) ?_
      refine aw_iload_n dX6_laysRuns_7 3 rfl ?_
      refine aw_ialdN T dX6_laysRuns_8 (((sT_emM M 0 13 8 (l ++ [nI (j - b)] ++ nuC k (V b))).TR hT).s 2 (by decide)) (((sT_emM M 0 13 8 (l ++ [nI (j - b)] ++ nuC k (V b))).TR hT).n 2 (by decide)) rfl (by omega) (by first | decide | omega) ?_
      refine aw_topE ((congrFun (emM_I M (l ++ [nI (j - b)] ++ nuC k (V b)) (show (2 : Nat) ≠ 0 by decide) (show (2 : Nat) ≠ 8 by decide)) T).trans hz) ?_
      refine aw_icmp_geN (b + (j - b)) z 93 dX6_laysRuns_9 (by decide) rfl rfl (by omega) (by omega) (fun c3 => absurd c3 (by omega)) (fun c3 => ?_)
      refine aw_iconst (v := 1) dX6_laysRuns_12 (by decide) ?_
      refine aw_istore_n [(3, .int 1), (2, .int (nI (b + (j - b)))), (0, .ref 0), (1, .int (nI T))] dX6_laysRuns_13 (Nat.le_of_ble_eq_true rfl) rfl ?_
      rw [show b + (j - b) = j by omega]
      exact g
theorem sp_lru {d : Nat} (hd : 3 ≤ d) {M : xM} {l : List Int32} (k z T : Nat) (V : Nat → Int64) (hT : TR M) (hk8 : k < 8) (hTl : T < 24) (hk : mI M 1 T = nI k) (hz : mI M 2 T = nI z) (hz2 : z ≤ 12) (hV : ∀ i, i < z → mL M 5 (12 * T + i) = V i) (hok : ∀ i, i < z → okN k (V i)) (hl : l.length + 10 * z ≤ 1500) : Sp (fX6_laysRuns d) [.ref 0, .int (nI T)] (emM M 0 13 8 l) (dt none (emM M 0 13 8 (l ++ ruB k V z z 1 0))) := by
  refine Sp.of pn_X6 (Nat.le_of_ble_eq_true rfl) (fun h => Bool.noConfusion h) ?_
  cases z with
  | zero =>
    rw [show l ++ ruB k V 0 0 1 0 = l from List.append_nil l]
    refine aw_iconst (v := 0) dX6_laysRuns_0 (by decide) ?_
    refine aw_istore_n [(2, .int 0), (0, .ref 0), (1, .int (nI T))] dX6_laysRuns_1 (Nat.le_of_ble_eq_true rfl) rfl ?_
    refine aw_iload_n dX6_laysRuns_2 0 rfl ?_
    refine aw_aload_n dX6_laysRuns_3 1 rfl ?_
    refine aw_getR (b := 2) dX6_laysRuns_4 fl_X6_13 rfl (((sT_emM M 0 13 8 l).TR hT).s 0 (by decide)) (((sT_emM M 0 13 8 l).TR hT).n 0 (by decide)) (((sT_emM M 0 13 8 l).TR hT).r 1) ?_
    refine aw_iload_n dX6_laysRuns_7 2 rfl ?_
    refine aw_ialdN T dX6_laysRuns_8 (((sT_emM M 0 13 8 l).TR hT).s 2 (by decide)) (((sT_emM M 0 13 8 l).TR hT).n 2 (by decide)) rfl (by omega) (by first | decide | omega) ?_
    refine aw_topE ((congrFun (emM_I M l (show (2 : Nat) ≠ 0 by decide) (show (2 : Nat) ≠ 8 by decide)) T).trans hz) ?_
    refine aw_icmp_geN 0 0 93 dX6_laysRuns_9 (by decide) rfl rfl (by omega) (by omega) (fun c1 => ?_) (fun c1 => absurd (by omega) c1)
    refine aw_ret dX6_laysRuns_93 rfl (Nat.zero_le _) (Nat.zero_le _) ?_
    exact ⟨rfl, rfl⟩
  | succ z =>
    have g := lp_lru hd k (z + 1) T V hT hk8 hTl hk hz hz2 hV hok z 1 0 l (by omega) (by omega) (by omega)
    refine aw_iconst (v := 0) dX6_laysRuns_0 (by decide) ?_
    refine aw_istore_n [(2, .int 0), (0, .ref 0), (1, .int (nI T))] dX6_laysRuns_1 (Nat.le_of_ble_eq_true rfl) rfl ?_
    refine aw_iload_n dX6_laysRuns_2 0 rfl ?_
    refine aw_aload_n dX6_laysRuns_3 1 rfl ?_
    refine aw_getR (b := 2) dX6_laysRuns_4 fl_X6_13 rfl (((sT_emM M 0 13 8 l).TR hT).s 0 (by decide)) (((sT_emM M 0 13 8 l).TR hT).n 0 (by decide)) (((sT_emM M 0 13 8 l).TR hT).r 1) ?_
    refine aw_iload_n dX6_laysRuns_7 2 rfl ?_
    refine aw_ialdN T dX6_laysRuns_8 (((sT_emM M 0 13 8 l).TR hT).s 2 (by decide)) (((sT_emM M 0 13 8 l).TR hT).n 2 (by decide)) rfl (by omega) (by first | decide | omega) ?_
    refine aw_topE ((congrFun (emM_I M l (show (2 : Nat) ≠ 0 by decide) (show (2 : Nat) ≠ 8 by decide)) T).trans hz) ?_
    refine aw_icmp_geN 0 (z + 1) 93 dX6_laysRuns_9 (by decide) rfl rfl (by omega) (by omega) (fun c1 => absurd c1 (by omega)) (fun c1 => ?_)
    refine aw_iconst (v := 1) dX6_laysRuns_12 (by decide) ?_
    refine aw_istore_n [(3, .int 1), (2, .int 0), (0, .ref 0), (1, .int (nI T))] dX6_laysRuns_13 (Nat.le_of_ble_eq_true rfl) rfl ?_
    exact g
theorem sp_lp1 {d : Nat} (hd : 4 ≤ d) {M : xM} {l : List Int32} (k z T : Nat) (V : Nat → Int64) (hT : TR M) (hk8 : k < 8) (hTl : T < 24) (hk : mI M 1 T = nI k) (hz : mI M 2 T = nI z) (hz2 : z ≤ 12) (hV : ∀ i, i < z → mL M 5 (12 * T + i) = V i) (hok : ∀ i, i < z → okN k (V i)) (hl : l.length + 10 * z ≤ 1500) : Sp (fX6_laysPlain d) [.ref 0, .int (nI T), .int 1] (emM M 0 13 8 l) (dt none (emM M 0 13 8 (l ++ ruB k V z z 1 0))) := by
  refine Sp.of pn_X6 (Nat.le_of_ble_eq_true rfl) (fun h => Bool.noConfusion h) ?_
  refine aw_iload_n dX6_laysPlain_0 2 rfl ?_
  refine aw_iconst (v := 1) dX6_laysPlain_1 (by decide) ?_
  refine aw_icmp_ne 11 dX6_laysPlain_2 (by decide) (fun c1 => absurd rfl c1) (fun c1 => ?_)
  refine aw_aload_n dX6_laysPlain_5 0 rfl ?_
  refine aw_iload_n dX6_laysPlain_6 1 rfl ?_
  refine aw_callVv [.int (nI T)] [] (sp_lru (d := d - 1) (by omega) (l := l) k z T V hT hk8 hTl hk hz hz2 hV hok hl) dX6_laysPlain_7 ml_X6_254 im_X6_laysRuns (((sT_emM M 0 13 8 l).TR hT).s 0 (by decide)) (((sT_emM M 0 13 8 l).TR hT).n 0 (by decide)) rfl rfl (dl1 (d := d) (by omega)) rfl rfl (Nat.le_of_ble_eq_true rfl) rfl rfl (Nat.zero_le _) (Nat.zero_le _) ?_
  refine aw_ret dX6_laysPlain_10 rfl (Nat.zero_le _) (Nat.zero_le _) ?_
  exact ⟨rfl, rfl⟩
theorem lp_lp0 {d : Nat} (hd : 4 ≤ d) {M : xM} (k z T : Nat) (V : Nat → Int64) (hT : TR M) (hk8 : k < 8) (hTl : T < 24) (hk : mI M 1 T = nI k) (hz : mI M 2 T = nI z) (hz2 : z ≤ 12) (hV : ∀ i, i < z → mL M 5 (12 * T + i) = V i) (hok : ∀ i, i < z → okN k (V i)) : ∀ (n i : Nat) (l : List Int32), i + n = z → l.length + 10 * n ≤ 1500 → AW (fX6_laysPlain d) 13 [(3, .int (nI i)), (0, .ref 0), (1, .int (nI T)), (2, .int 0)] [] (emM M 0 13 8 l) 0 0 (dt none (emM M 0 13 8 (l ++ flB k V n i))) := by
  intro n
  induction n with
  | zero =>
    intro i l hi hl
    rw [show l ++ flB k V 0 i = l from List.append_nil l]
    refine aw_iload_n dX6_laysPlain_13 0 rfl ?_
    refine aw_aload_n dX6_laysPlain_14 1 rfl ?_
    refine aw_getR (b := 2) dX6_laysPlain_15 fl_X6_13 rfl (((sT_emM M 0 13 8 l).TR hT).s 0 (by decide)) (((sT_emM M 0 13 8 l).TR hT).n 0 (by decide)) (((sT_emM M 0 13 8 l).TR hT).r 1) ?_
    refine aw_iload_n dX6_laysPlain_18 2 rfl ?_
    refine aw_ialdN T dX6_laysPlain_19 (((sT_emM M 0 13 8 l).TR hT).s 2 (by decide)) (((sT_emM M 0 13 8 l).TR hT).n 2 (by decide)) rfl (by omega) (by first | decide | omega) ?_
    refine aw_topE ((congrFun (emM_I M l (show (2 : Nat) ≠ 0 by decide) (show (2 : Nat) ≠ 8 by decide)) T).trans hz) ?_
    refine aw_icmp_geN i z 103 dX6_laysPlain_20 (by decide) rfl rfl (by omega) (by omega) (fun c1 => ?_) (fun c1 => absurd (by omega) c1)
    refine aw_ret dX6_laysPlain_103 rfl (Nat.zero_le _) (Nat.zero_le _) ?_
    exact ⟨rfl, rfl⟩
  | succ n ih =>
    intro i l hi hl
    have hln := nuC_len hk8 (V i)
    have g := ih (i + 1) (l ++ nuC k (V i)) (by omega) (by rw [List.length_append]; omega)
    rw [List.append_assoc] at g
    refine aw_iload_n dX6_laysPlain_13 0 rfl ?_
    refine aw_aload_n dX6_laysPlain_14 1 rfl ?_
    refine aw_getR (b := 2) dX6_laysPlain_15 fl_X6_13 rfl (((sT_emM M 0 13 8 l).TR hT).s 0 (by decide)) (((sT_emM M 0 13 8 l).TR hT).n 0 (by decide)) (((sT_emM M 0 13 8 l).TR hT).r 1) ?_
    refine aw_iload_n dX6_laysPlain_18 2 rfl ?_
    refine aw_ialdN T dX6_laysPlain_19 (((sT_emM M 0 13 8 l).TR hT).s 2 (by decide)) (((sT_emM M 0 13 8 l).TR hT).n 2 (by decide)) rfl (by omega) (by first | decide | omega) ?_
    refine aw_topE ((congrFun (emM_I M l (show (2 : Nat) ≠ 0 by decide) (show (2 : Nat) ≠ 8 by decide)) T).trans hz) ?_
    refine aw_icmp_geN i z 103 dX6_laysPlain_20 (by decide) rfl rfl (by omega) (by omega) (fun c1 => absurd c1 (by omega)) (fun c1 => ?_)
    refine aw_iload_n dX6_laysPlain_23 3 rfl ?_
    refine aw_iconst (v := 2) dX6_laysPlain_24 (by decide) ?_
    refine aw_icmp_ne 76 dX6_laysPlain_25 (by decide) (fun c2 => ?_) (fun c2 => absurd c2 (by decide))
    refine aw_aload_n dX6_laysPlain_76 1 rfl ?_
    refine aw_aload_n dX6_laysPlain_77 1 rfl ?_
    refine aw_getR (b := 1) dX6_laysPlain_78 fl_X6_7 rfl (((sT_emM M 0 13 8 l).TR hT).s 0 (by decide)) (((sT_emM M 0 13 8 l).TR hT).n 0 (by decide)) (((sT_emM M 0 13 8 l).TR hT).r 0) ?_
    refine aw_iload_n dX6_laysPlain_81 2 rfl ?_
    refine aw_ialdN T dX6_laysPlain_82 (((sT_emM M 0 13 8 l).TR hT).s 1 (by decide)) (((sT_emM M 0 13 8 l).TR hT).n 1 (by decide)) rfl (by omega) (by first | decide | omega) ?_
    refine aw_topE ((congrFun (emM_I M l (show (1 : Nat) ≠ 0 by decide) (show (1 : Nat) ≠ 8 by decide)) T).trans hk) ?_
    refine aw_aload_n dX6_laysPlain_83 1 rfl ?_
    refine aw_getR (b := 5) dX6_laysPlain_84 fl_X6_23 rfl (((sT_emM M 0 13 8 l).TR hT).s 0 (by decide)) (((sT_emM M 0 13 8 l).TR hT).n 0 (by decide)) (((sT_emM M 0 13 8 l).TR hT).r 4) ?_
    refine aw_bipush (v := 12) dX6_laysPlain_87 (by decide) ?_
    refine aw_iload_n dX6_laysPlain_89 2 rfl ?_
    refine aw_imulN 12 T dX6_laysPlain_90 rfl rfl ?_
    refine aw_iload_n dX6_laysPlain_91 0 rfl ?_
    refine aw_iaddN (12 * T) i dX6_laysPlain_92 rfl rfl ?_
    refine aw_laldN ((12 * T) + i) dX6_laysPlain_93 (((sT_emM M 0 13 8 l).TR hT).s 5 (by decide)) (((sT_emM M 0 13 8 l).TR hT).n 5 (by decide)) rfl (by omega) (by first | decide | omega) ?_
    refine aw_toplE (show mL M 5 (((12 * T) + i)) = V i by rw [show ((12 * T) + i) = 12 * T + i by omega]; exact hV i (by omega)) ?_
    refine aw_callVv [.int (nI k), .long (V i)] [] (sp_ln (d := d - 1) (by omega) (l := l) k (V i) hT hk8 (hok i (by omega)) (by omega)) dX6_laysPlain_94 ml_X6_250 im_X6_laysNumber (((sT_emM M 0 13 8 l).TR hT).s 0 (by decide)) (((sT_emM M 0 13 8 l).TR hT).n 0 (by decide)) rfl rfl (dl1 (d := d) (by omega)) rfl rfl (Nat.le_of_ble_eq_true rfl) rfl rfl (Nat.zero_le _) (Nat.zero_le _) ?_
    refine aw_iincN i 1 [(3, .int (nI (i + 1))), (0, .ref 0), (1, .int (nI T)), (2, .int 0)] dX6_laysPlain_97 0 rfl rfl rfl (Nat.le_of_ble_eq_true rfl) rfl ?_
    refine aw_goto 13 dX6_laysPlain_100 (by decide) ?_
    exact g
theorem sp_lp0 {d : Nat} (hd : 4 ≤ d) {M : xM} {l : List Int32} (k z T : Nat) (V : Nat → Int64) (hT : TR M) (hk8 : k < 8) (hTl : T < 24) (hk : mI M 1 T = nI k) (hz : mI M 2 T = nI z) (hz2 : z ≤ 12) (hV : ∀ i, i < z → mL M 5 (12 * T + i) = V i) (hok : ∀ i, i < z → okN k (V i)) (hl : l.length + 10 * z ≤ 1500) : Sp (fX6_laysPlain d) [.ref 0, .int (nI T), .int 0] (emM M 0 13 8 l) (dt none (emM M 0 13 8 (l ++ flB k V z 0))) := by
  refine Sp.of pn_X6 (Nat.le_of_ble_eq_true rfl) (fun h => Bool.noConfusion h) ?_
  refine aw_iload_n dX6_laysPlain_0 2 rfl ?_
  refine aw_iconst (v := 1) dX6_laysPlain_1 (by decide) ?_
  refine aw_icmp_ne 11 dX6_laysPlain_2 (by decide) (fun c1 => ?_) (fun c1 => absurd c1 (by decide))
  refine aw_iconst (v := 0) dX6_laysPlain_11 (by decide) ?_
  refine aw_istore_n [(3, .int 0), (0, .ref 0), (1, .int (nI T)), (2, .int 0)] dX6_laysPlain_12 (Nat.le_of_ble_eq_true rfl) rfl ?_
  exact lp_lp0 hd k z T V hT hk8 hTl hk hz hz2 hV hok z 0 l (by omega) hl
theorem lp_lp2 {d : Nat} (hd : 4 ≤ d) {M : xM} (k z T : Nat) (V : Nat → Int64) (hT : TR M) (hk8 : k < 8) (hTl : T < 24) (hk : mI M 1 T = nI k) (hz : mI M 2 T = nI z) (hz2 : z ≤ 12) (hV : ∀ i, i < z → mL M 5 (12 * T + i) = V i) (hok : ∀ i, i < z → okN k (V i)) : ∀ (n i : Nat) (b : Int64) (l : List Int32), i + n = z → (i = 0 → b = 0) → (0 < i → b = V (i - 1)) → l.length + 10 * n ≤ 1500 → AW (fX6_laysPlain d) 13 [(3, .int (nI i)), (0, .ref 0), (1, .int (nI T)), (2, .int 2)] [] (emM M 0 13 8 l) 0 0 (dt none (emM M 0 13 8 (l ++ ssB V n i b))) := by
  intro n
  induction n with
  | zero =>
    intro i b l hi hb1 hb2 hl
    rw [show l ++ ssB V 0 i b = l from List.append_nil l]
    refine aw_iload_n dX6_laysPlain_13 0 rfl ?_
    refine aw_aload_n dX6_laysPlain_14 1 rfl ?_
    refine aw_getR (b := 2) dX6_laysPlain_15 fl_X6_13 rfl (((sT_emM M 0 13 8 l).TR hT).s 0 (by decide)) (((sT_emM M 0 13 8 l).TR hT).n 0 (by decide)) (((sT_emM M 0 13 8 l).TR hT).r 1) ?_
    refine aw_iload_n dX6_laysPlain_18 2 rfl ?_
    refine aw_ialdN T dX6_laysPlain_19 (((sT_emM M 0 13 8 l).TR hT).s 2 (by decide)) (((sT_emM M 0 13 8 l).TR hT).n 2 (by decide)) rfl (by omega) (by first | decide | omega) ?_
    refine aw_topE ((congrFun (emM_I M l (show (2 : Nat) ≠ 0 by decide) (show (2 : Nat) ≠ 8 by decide)) T).trans hz) ?_
    refine aw_icmp_geN i z 103 dX6_laysPlain_20 (by decide) rfl rfl (by omega) (by omega) (fun c1 => ?_) (fun c1 => absurd (by omega) c1)
    refine aw_ret dX6_laysPlain_103 rfl (Nat.zero_le _) (Nat.zero_le _) ?_
    exact ⟨rfl, rfl⟩
  | succ n ih =>
    intro i b l hi hb1 hb2 hl
    have hln := stB_len 9 (zgN (V i - b))
    have g := ih (i + 1) (V i) (l ++ stB 9 (zgN (V i - b))) (by omega) (fun h => absurd h (by omega)) (fun _ => by rw [show i + 1 - 1 = i by omega]) (by rw [List.length_append]; omega)
    rw [List.append_assoc] at g
    by_cases ci : i = 0
    · obtain rfl := hb1 ci
      subst ci
      rw [Int64.sub_zero] at g hln
      refine aw_iload_n dX6_laysPlain_13 0 rfl ?_
      refine aw_aload_n dX6_laysPlain_14 1 rfl ?_
      refine aw_getR (b := 2) dX6_laysPlain_15 fl_X6_13 rfl (((sT_emM M 0 13 8 l).TR hT).s 0 (by decide)) (((sT_emM M 0 13 8 l).TR hT).n 0 (by decide)) (((sT_emM M 0 13 8 l).TR hT).r 1) ?_
      refine aw_iload_n dX6_laysPlain_18 2 rfl ?_
      refine aw_ialdN T dX6_laysPlain_19 (((sT_emM M 0 13 8 l).TR hT).s 2 (by decide)) (((sT_emM M 0 13 8 l).TR hT).n 2 (by decide)) rfl (by omega) (by first | decide | omega) ?_
      refine aw_topE ((congrFun (emM_I M l (show (2 : Nat) ≠ 0 by decide) (show (2 : Nat) ≠ 8 by decide)) T).trans hz) ?_
      refine aw_icmp_geN 0 z 103 dX6_laysPlain_20 (by decide) rfl rfl (by omega) (by omega) (fun c1 => absurd c1 (by omega)) (fun c1 => ?_)
      refine aw_iload_n dX6_laysPlain_23 3 rfl ?_
      refine aw_iconst (v := 2) dX6_laysPlain_24 (by decide) ?_
      refine aw_icmp_ne 76 dX6_laysPlain_25 (by decide) (fun c2 => absurd rfl c2) (fun c2 => ?_)
      refine aw_aload_n dX6_laysPlain_28 1 rfl ?_
      refine aw_iload_n dX6_laysPlain_29 0 rfl ?_
      refine aw_if_ne 45 dX6_laysPlain_30 (by decide) (fun c3 => absurd rfl c3) (fun c3 => ?_)
      refine aw_aload_n dX6_laysPlain_33 1 rfl ?_
      refine aw_getR (b := 5) dX6_laysPlain_34 fl_X6_23 rfl (((sT_emM M 0 13 8 l).TR hT).s 0 (by decide)) (((sT_emM M 0 13 8 l).TR hT).n 0 (by decide)) (((sT_emM M 0 13 8 l).TR hT).r 4) ?_
      refine aw_bipush (v := 12) dX6_laysPlain_37 (by decide) ?_
      refine aw_iload_n dX6_laysPlain_39 2 rfl ?_
      refine aw_imulN 12 T dX6_laysPlain_40 rfl rfl ?_
      refine aw_laldN (12 * T) dX6_laysPlain_41 (((sT_emM M 0 13 8 l).TR hT).s 5 (by decide)) (((sT_emM M 0 13 8 l).TR hT).n 5 (by decide)) rfl (by omega) (by first | decide | omega) ?_
      refine aw_toplE (show mL M 5 ((12 * T)) = V 0 by rw [show (12 * T) = 12 * T + 0 by omega]; exact hV 0 (by omega)) ?_
      refine aw_goto 70 dX6_laysPlain_42 (by decide) ?_
      refine aw_callVv [.long (V 0)] [] (sp_lst (d := d - 1) (by omega) (l := l) (V 0) hT (by omega)) dX6_laysPlain_70 ml_X6_257 im_X6_laysStep (((sT_emM M 0 13 8 l).TR hT).s 0 (by decide)) (((sT_emM M 0 13 8 l).TR hT).n 0 (by decide)) rfl rfl (dl1 (d := d) (by omega)) rfl rfl (Nat.le_of_ble_eq_true rfl) rfl rfl (Nat.zero_le _) (Nat.zero_le _) ?_
      refine aw_goto 97 dX6_laysPlain_73 (by decide) ?_
      refine aw_iincN 0 1 [(3, .int (nI (0 + 1))), (0, .ref 0), (1, .int (nI T)), (2, .int 2)] dX6_laysPlain_97 0 rfl rfl rfl (Nat.le_of_ble_eq_true rfl) rfl ?_
      refine aw_goto 13 dX6_laysPlain_100 (by decide) ?_
      show AW _ 13 _ _ _ 0 0 (dt none (emM M 0 13 8 (l ++ (stB 9 (zgN (V 0 - 0)) ++ ssB V n (0 + 1) (V 0)))))
      rw [Int64.sub_zero]
      exact g
    · obtain rfl := hb2 (by omega)
      refine aw_iload_n dX6_laysPlain_13 0 rfl ?_
      refine aw_aload_n dX6_laysPlain_14 1 rfl ?_
      refine aw_getR (b := 2) dX6_laysPlain_15 fl_X6_13 rfl (((sT_emM M 0 13 8 l).TR hT).s 0 (by decide)) (((sT_emM M 0 13 8 l).TR hT).n 0 (by decide)) (((sT_emM M 0 13 8 l).TR hT).r 1) ?_
      refine aw_iload_n dX6_laysPlain_18 2 rfl ?_
      refine aw_ialdN T dX6_laysPlain_19 (((sT_emM M 0 13 8 l).TR hT).s 2 (by decide)) (((sT_emM M 0 13 8 l).TR hT).n 2 (by decide)) rfl (by omega) (by first | decide | omega) ?_
      refine aw_topE ((congrFun (emM_I M l (show (2 : Nat) ≠ 0 by decide) (show (2 : Nat) ≠ 8 by decide)) T).trans hz) ?_
      refine aw_icmp_geN i z 103 dX6_laysPlain_20 (by decide) rfl rfl (by omega) (by omega) (fun c1 => absurd c1 (by omega)) (fun c1 => ?_)
      refine aw_iload_n dX6_laysPlain_23 3 rfl ?_
      refine aw_iconst (v := 2) dX6_laysPlain_24 (by decide) ?_
      refine aw_icmp_ne 76 dX6_laysPlain_25 (by decide) (fun c2 => absurd rfl c2) (fun c2 => ?_)
      refine aw_aload_n dX6_laysPlain_28 1 rfl ?_
      refine aw_iload_n dX6_laysPlain_29 0 rfl ?_
      refine aw_if_ne 45 dX6_laysPlain_30 (by decide) (fun c3 => ?_) (fun c3 => absurd c3 (fun z => ci ((nI_00 (by omega)).mp z)))
      refine aw_aload_n dX6_laysPlain_45 1 rfl ?_
      refine aw_getR (b := 5) dX6_laysPlain_46 fl_X6_23 rfl (((sT_emM M 0 13 8 l).TR hT).s 0 (by decide)) (((sT_emM M 0 13 8 l).TR hT).n 0 (by decide)) (((sT_emM M 0 13 8 l).TR hT).r 4) ?_
      refine aw_bipush (v := 12) dX6_laysPlain_49 (by decide) ?_
      refine aw_iload_n dX6_laysPlain_51 2 rfl ?_
      refine aw_imulN 12 T dX6_laysPlain_52 rfl rfl ?_
      refine aw_iload_n dX6_laysPlain_53 0 rfl ?_
      refine aw_iaddN (12 * T) i dX6_laysPlain_54 rfl rfl ?_
      refine aw_laldN ((12 * T) + i) dX6_laysPlain_55 (((sT_emM M 0 13 8 l).TR hT).s 5 (by decide)) (((sT_emM M 0 13 8 l).TR hT).n 5 (by decide)) rfl (by omega) (by first | decide | omega) ?_
      refine aw_toplE (show mL M 5 (((12 * T) + i)) = V i by rw [show ((12 * T) + i) = 12 * T + i by omega]; exact hV i (by omega)) ?_
      refine aw_aload_n dX6_laysPlain_56 1 rfl ?_
      refine aw_getR (b := 5) dX6_laysPlain_57 fl_X6_23 rfl (((sT_emM M 0 13 8 l).TR hT).s 0 (by decide)) (((sT_emM M 0 13 8 l).TR hT).n 0 (by decide)) (((sT_emM M 0 13 8 l).TR hT).r 4) ?_
      refine aw_bipush (v := 12) dX6_laysPlain_60 (by decide) ?_
      refine aw_iload_n dX6_laysPlain_62 2 rfl ?_
      refine aw_imulN 12 T dX6_laysPlain_63 rfl rfl ?_
      refine aw_iload_n dX6_laysPlain_64 0 rfl ?_
      refine aw_iaddN (12 * T) i dX6_laysPlain_65 rfl rfl ?_
      refine aw_iconst (v := 1) dX6_laysPlain_66 (by decide) ?_
      refine aw_isubN ((12 * T) + i) 1 dX6_laysPlain_67 rfl rfl (by omega) ?_
      refine aw_laldN (((12 * T) + i) - 1) dX6_laysPlain_68 (((sT_emM M 0 13 8 l).TR hT).s 5 (by decide)) (((sT_emM M 0 13 8 l).TR hT).n 5 (by decide)) rfl (by omega) (by first | decide | omega) ?_
      refine aw_toplE (show mL M 5 ((((12 * T) + i) - 1)) = V (i - 1) by rw [show (((12 * T) + i) - 1) = 12 * T + (i - 1) by omega]; exact hV (i - 1) (by omega)) ?_
      refine aw_lsub dX6_laysPlain_69 ?_
      refine aw_callVv [.long ((V i) - (V (i - 1)))] [] (sp_lst (d := d - 1) (by omega) (l := l) ((V i) - (V (i - 1))) hT (by omega)) dX6_laysPlain_70 ml_X6_257 im_X6_laysStep (((sT_emM M 0 13 8 l).TR hT).s 0 (by decide)) (((sT_emM M 0 13 8 l).TR hT).n 0 (by decide)) rfl rfl (dl1 (d := d) (by omega)) rfl rfl (Nat.le_of_ble_eq_true rfl) rfl rfl (Nat.zero_le _) (Nat.zero_le _) ?_
      refine aw_goto 97 dX6_laysPlain_73 (by decide) ?_
      refine aw_iincN i 1 [(3, .int (nI (i + 1))), (0, .ref 0), (1, .int (nI T)), (2, .int 2)] dX6_laysPlain_97 0 rfl rfl rfl (Nat.le_of_ble_eq_true rfl) rfl ?_
      refine aw_goto 13 dX6_laysPlain_100 (by decide) ?_
      exact g
theorem sp_lp2 {d : Nat} (hd : 4 ≤ d) {M : xM} {l : List Int32} (k z T : Nat) (V : Nat → Int64) (hT : TR M) (hk8 : k < 8) (hTl : T < 24) (hk : mI M 1 T = nI k) (hz : mI M 2 T = nI z) (hz2 : z ≤ 12) (hV : ∀ i, i < z → mL M 5 (12 * T + i) = V i) (hok : ∀ i, i < z → okN k (V i)) (hl : l.length + 10 * z ≤ 1500) : Sp (fX6_laysPlain d) [.ref 0, .int (nI T), .int 2] (emM M 0 13 8 l) (dt none (emM M 0 13 8 (l ++ ssB V z 0 0))) := by
  refine Sp.of pn_X6 (Nat.le_of_ble_eq_true rfl) (fun h => Bool.noConfusion h) ?_
  refine aw_iload_n dX6_laysPlain_0 2 rfl ?_
  refine aw_iconst (v := 1) dX6_laysPlain_1 (by decide) ?_
  refine aw_icmp_ne 11 dX6_laysPlain_2 (by decide) (fun c1 => ?_) (fun c1 => absurd c1 (by decide))
  refine aw_iconst (v := 0) dX6_laysPlain_11 (by decide) ?_
  refine aw_istore_n [(3, .int 0), (0, .ref 0), (1, .int (nI T)), (2, .int 2)] dX6_laysPlain_12 (Nat.le_of_ble_eq_true rfl) rfl ?_
  exact lp_lp2 hd k z T V hT hk8 hTl hk hz hz2 hV hok z 0 0 l (by omega) (fun _ => rfl) (fun h => absurd h (by omega)) hl
