-- THE REFERENCE WRITES
theorem sp_ls {d : Nat} (hd : 0 ≤ d) {M : xM} {l : List Int32} (x : Int32) (hT : TR M) (hl : l.length < 1500) : Sp (fX6_lays d) [.ref 0, .int x] (emM M 0 13 8 l) (dt none (emM M 0 13 8 (l ++ [x]))) := by
  refine Sp.of pn_X6 (Nat.le_of_ble_eq_true rfl) (fun h => Bool.noConfusion h) ?_
  refine aw_aload_n dX6_lays_0 0 rfl ?_
  refine aw_getR (b := 8) dX6_lays_1 fl_X6_36 rfl (((sT_emM M 0 13 8 l).TR hT).s 0 (by decide)) (((sT_emM M 0 13 8 l).TR hT).n 0 (by decide)) (((sT_emM M 0 13 8 l).TR hT).r 12) ?_
  refine aw_aload_n dX6_lays_4 0 rfl ?_
  refine aw_getI dX6_lays_5 fl_X6_235 (((sT_emM M 0 13 8 l).TR hT).s 0 (by decide)) (((sT_emM M 0 13 8 l).TR hT).n 0 (by decide)) ?_
  refine aw_topE (emM_f M 0 13 8 l) ?_
  refine aw_iload_n dX6_lays_8 1 rfl ?_
  refine aw_iastN l.length dX6_lays_9 (((sT_emM M 0 13 8 l).TR hT).s 8 (by decide)) (((sT_emM M 0 13 8 l).TR hT).n 8 (by decide)) rfl (by omega) (by first | decide | omega) ?_
  refine aw_aload_n dX6_lays_10 0 rfl ?_
  refine aw_dup dX6_lays_11 rfl ?_
  refine aw_getI dX6_lays_12 fl_X6_235 (((sT_emM M 0 13 8 l).TR hT).s 0 (by decide)) (((sT_emM M 0 13 8 l).TR hT).n 0 (by decide)) ?_
  refine aw_topE ((congrFun (mI_stI_c _ _ _ (show (0 : Nat) ≠ 8 by decide)) 13).trans (emM_f M 0 13 8 l)) ?_
  refine aw_iconst (v := 1) dX6_lays_15 (by decide) ?_
  refine aw_iaddN l.length 1 dX6_lays_16 rfl rfl ?_
  refine aw_putI dX6_lays_17 fl_X6_235 (Or.inl rfl) (((sT_emM M 0 13 8 l).TR hT).s 0 (by decide)) (((sT_emM M 0 13 8 l).TR hT).n 0 (by decide)) ?_
  refine aw_ret dX6_lays_20 rfl (Nat.zero_le _) (Nat.zero_le _) ?_
  exact ⟨rfl, emM_s M l x (by decide)⟩
theorem bt8_R (v : Int64) (j : Nat) : Int64.toInt32 ((v >>> ((Int32.toInt64 (nI (8 * j))) &&& 63)) &&& 255) = bt8 v j := by
  unfold bt8
  rw [Int64.toInt32_and]
  rfl
theorem lp_lw {d : Nat} (hd : 1 ≤ d) {M : xM} (v : Int64) (n : Nat) (hT : TR M) : ∀ (j : Nat) (l : List Int32), j ≤ 8 → l.length + j ≤ 1500 → AW (fX6_laysWhole d) 5 [(4, .int (dn j)), (0, .ref 0), (1, .long v), (3, .int (nI n))] [] (emM M 0 13 8 l) 0 0 (dt none (emM M 0 13 8 (l ++ byB v j))) := by
  intro j
  induction j with
  | zero =>
    intro l h1 h2
    rw [show l ++ byB v 0 = l from List.append_nil l]
    refine aw_iload dX6_laysWhole_5 0 rfl ?_
    refine aw_if_lt 32 dX6_laysWhole_7 (by decide) (fun c1 => ?_) (fun c1 => absurd (by decide) c1)
    refine aw_ret dX6_laysWhole_32 rfl (Nat.zero_le _) (Nat.zero_le _) ?_
    exact ⟨rfl, rfl⟩
  | succ j ih =>
    intro l h1 h2
    have g := ih (l ++ [bt8 v j]) (by omega) (by simp only [List.length_append, List.length_cons, List.length_nil]; omega)
    rw [List.append_assoc, show [bt8 v j] ++ byB v j = byB v (j + 1) from rfl] at g
    refine aw_iload dX6_laysWhole_5 0 rfl ?_
    refine aw_if_lt 32 dX6_laysWhole_7 (by decide) (fun c1 => absurd c1 (nI_nn (by omega))) (fun c1 => ?_)
    refine aw_aload_n dX6_laysWhole_10 1 rfl ?_
    refine aw_lload_n dX6_laysWhole_11 2 rfl ?_
    refine aw_bipush (v := 8) dX6_laysWhole_12 (by decide) ?_
    refine aw_iload dX6_laysWhole_14 0 rfl ?_
    refine aw_imulN 8 j dX6_laysWhole_16 rfl rfl ?_
    refine aw_lshr dX6_laysWhole_17 ?_
    refine aw_ldc2 dX6_laysWhole_18 kc_X6_238 ?_
    refine aw_land dX6_laysWhole_21 ?_
    refine aw_l2i dX6_laysWhole_22 ?_
    refine aw_callVv [.int (Int64.toInt32 ((v >>> ((Int32.toInt64 (nI (8 * j))) &&& 63)) &&& 255))] [] (show Sp (fX6_lays (d - 1)) [.ref 0, .int (Int64.toInt32 ((v >>> ((Int32.toInt64 (nI (8 * j))) &&& 63)) &&& 255))] (emM M 0 13 8 l) (dt none (emM M 0 13 8 (l ++ [bt8 v j]))) by rw [show Int64.toInt32 ((v >>> ((Int32.toInt64 (nI (8 * j))) &&& 63)) &&& 255) = bt8 v j from bt8_R v j]; exact sp_ls (by omega) (l := l) _ hT (by omega)) dX6_laysWhole_23 ml_X6_240 im_X6_lays (((sT_emM M 0 13 8 l).TR hT).s 0 (by decide)) (((sT_emM M 0 13 8 l).TR hT).n 0 (by decide)) rfl rfl (dl1 (d := d) (by omega)) rfl rfl (Nat.le_of_ble_eq_true rfl) rfl rfl (Nat.zero_le _) (Nat.zero_le _) ?_
    obtain ⟨v2, ev2⟩ : ∃ y : Int32, y = (nI j) + (-1) := ⟨_, rfl⟩
    refine aw_iinc v2 [(4, .int v2), (0, .ref 0), (1, .long v), (3, .int (nI n))] dX6_laysWhole_26 0 rfl (by rw [ev2]; rfl) (Nat.le_of_ble_eq_true rfl) rfl ?_
    refine aw_goto 5 dX6_laysWhole_29 (by decide) ?_
    rw [show v2 = dn j from (ev2).trans (dn_s j)]
    exact g
theorem sp_lw {d : Nat} (hd : 1 ≤ d) {M : xM} {l : List Int32} (v : Int64) (n : Nat) (hT : TR M) (hn : n ≤ 8) (hl : l.length + n ≤ 1500) : Sp (fX6_laysWhole d) [.ref 0, .long v, .int (nI n)] (emM M 0 13 8 l) (dt none (emM M 0 13 8 (l ++ byB v n))) := by
  refine Sp.of pn_X6 (Nat.le_of_ble_eq_true rfl) (fun h => Bool.noConfusion h) ?_
  refine aw_iload_n dX6_laysWhole_0 2 rfl ?_
  refine aw_iconst (v := 1) dX6_laysWhole_1 (by decide) ?_
  refine aw_isub dX6_laysWhole_2 ?_
  refine aw_topE (dn_1 n) ?_
  refine aw_istore [(4, .int (dn n)), (0, .ref 0), (1, .long v), (3, .int (nI n))] dX6_laysWhole_3 (Nat.le_of_ble_eq_true rfl) rfl ?_
  exact lp_lw hd v n hT n l hn hl
theorem st_0 {u : Nat} (hu : u < 2 ^ 64) : lN (u / 128) = 0 ↔ u < 128 := by
  constructor
  · intro h
    by_cases c : u < 128
    · exact c
    · exact absurd h (lN_nz (by omega) (by omega))
  · intro h
    rw [Nat.div_eq_of_lt h]
    rfl
theorem lp_lst {d : Nat} (hd : 1 ≤ d) {M : xM} (v : Int64) (hT : TR M) : ∀ (g u : Nat) (l : List Int32), u < 2 ^ 64 → u < 128 ^ (g + 1) → l.length + (g + 1) ≤ 1500 → AW (fX6_laysStep d) 12 [(5, .int 1), (3, .long (lN u)), (0, .ref 0), (1, .long v)] [] (emM M 0 13 8 l) 0 0 (dt none (emM M 0 13 8 (l ++ stB g u))) := by
  have one : ∀ (u : Nat) (l : List Int32), u < 2 ^ 64 → u < 128 → l.length + 1 ≤ 1500 → AW (fX6_laysStep d) 12 [(5, .int 1), (3, .long (lN u)), (0, .ref 0), (1, .long v)] [] (emM M 0 13 8 l) 0 0 (dt none (emM M 0 13 8 (l ++ [nI u]))) := by
    intro u l hu c hl
    refine aw_iload dX6_laysStep_12 0 rfl ?_
    refine aw_if_eq 66 dX6_laysStep_14 (by decide) (fun c1 => absurd c1 (by decide)) (fun c1 => ?_)
    refine aw_lload_n dX6_laysStep_17 1 rfl ?_
    refine aw_ldc2 dX6_laysStep_18 kc_X6_79 ?_
    refine aw_land dX6_laysStep_21 ?_
    refine aw_l2i dX6_laysStep_22 ?_
    refine aw_topE (show Int64.toInt32 ((lN u) &&& (127 : Int64)) = nI (u % 128) by rw [a127 hu]; exact l2i_N _) ?_
    refine aw_istore [(6, .int (nI (u % 128))), (5, .int 1), (3, .long (lN u)), (0, .ref 0), (1, .long v)] dX6_laysStep_23 (Nat.le_of_ble_eq_true rfl) rfl ?_
    refine aw_lload_n dX6_laysStep_25 2 rfl ?_
    refine aw_bipush (v := 7) dX6_laysStep_26 (by decide) ?_
    refine aw_lushr dX6_laysStep_28 ?_
    refine aw_toplE (u7 hu) ?_
    refine aw_lstore_n [(3, .long (lN (u / 128))), (6, .int (nI (u % 128))), (5, .int 1), (0, .ref 0), (1, .long v)] dX6_laysStep_29 (Nat.le_of_ble_eq_true rfl) rfl ?_
    refine aw_lload_n dX6_laysStep_30 0 rfl ?_
    refine aw_lconst (v := 0) dX6_laysStep_31 (by decide) ?_
    refine aw_leq 40 dX6_laysStep_32 dX6_laysStep_33 (by decide) (fun c2 => ?_) (fun c2 => absurd ((st_0 hu).mpr c) c2)
    refine aw_iconst (v := 0) dX6_laysStep_40 (by decide) ?_
    refine aw_istore [(5, .int 0), (3, .long (lN (u / 128))), (6, .int (nI (u % 128))), (0, .ref 0), (1, .long v)] dX6_laysStep_41 (Nat.le_of_ble_eq_true rfl) rfl ?_
    refine aw_aload_n dX6_laysStep_43 3 rfl ?_
    refine aw_iload dX6_laysStep_44 0 rfl ?_
    refine aw_if_eq 58 dX6_laysStep_46 (by decide) (fun c3 => ?_) (fun c3 => absurd rfl c3)
    refine aw_iload dX6_laysStep_58 2 rfl ?_
    refine aw_callVv [.int (nI (u % 128))] [] (show Sp (fX6_lays (d - 1)) [.ref 0, .int (nI (u % 128))] (emM M 0 13 8 l) (dt none (emM M 0 13 8 (l ++ [nI u]))) by rw [show nI (u % 128) = nI u from (congrArg nI (Nat.mod_eq_of_lt c))]; exact sp_ls (by omega) (l := l) _ hT (by omega)) dX6_laysStep_60 ml_X6_240 im_X6_lays (((sT_emM M 0 13 8 l).TR hT).s 0 (by decide)) (((sT_emM M 0 13 8 l).TR hT).n 0 (by decide)) rfl rfl (dl1 (d := d) (by omega)) rfl rfl (Nat.le_of_ble_eq_true rfl) rfl rfl (Nat.zero_le _) (Nat.zero_le _) ?_
    refine aw_goto 12 dX6_laysStep_63 (by decide) ?_
    refine aw_sub [0, 1, 3, 4] rfl ?_
    refine aw_iload dX6_laysStep_12 0 rfl ?_
    refine aw_if_eq 66 dX6_laysStep_14 (by decide) (fun c1 => ?_) (fun c1 => absurd rfl c1)
    refine aw_ret dX6_laysStep_66 rfl (Nat.zero_le _) (Nat.zero_le _) ?_
    exact ⟨rfl, rfl⟩
  intro g
  induction g with
  | zero =>
    intro u l hu hg hl
    rw [show stB 0 u = [nI u] from rfl]
    exact one u l hu (by omega) (by omega)
  | succ g ih =>
    intro u l hu hg hl
    by_cases c : u < 128
    · rw [show stB (g + 1) u = [nI u] from if_pos c]
      exact one u l hu c (by omega)
    · have e : stB (g + 1) u = nI (u % 128 + 128) :: stB g (u / 128) := if_neg c
      have q := ih (u / 128) (l ++ [nI (u % 128 + 128)]) (by omega) (by rw [Nat.pow_succ] at hg; exact Nat.div_lt_of_lt_mul (by rw [Nat.mul_comm]; exact hg)) (by rw [List.length_append, List.length_cons, List.length_nil]; omega)
      rw [List.append_assoc, show [nI (u % 128 + 128)] ++ stB g (u / 128) = stB (g + 1) u from e.symm] at q
      clear hg
      refine aw_iload dX6_laysStep_12 0 rfl ?_
      refine aw_if_eq 66 dX6_laysStep_14 (by decide) (fun c1 => absurd c1 (by decide)) (fun c1 => ?_)
      refine aw_lload_n dX6_laysStep_17 1 rfl ?_
      refine aw_ldc2 dX6_laysStep_18 kc_X6_79 ?_
      refine aw_land dX6_laysStep_21 ?_
      refine aw_l2i dX6_laysStep_22 ?_
      refine aw_topE (show Int64.toInt32 ((lN u) &&& (127 : Int64)) = nI (u % 128) by rw [a127 hu]; exact l2i_N _) ?_
      refine aw_istore [(6, .int (nI (u % 128))), (5, .int 1), (3, .long (lN u)), (0, .ref 0), (1, .long v)] dX6_laysStep_23 (Nat.le_of_ble_eq_true rfl) rfl ?_
      refine aw_lload_n dX6_laysStep_25 2 rfl ?_
      refine aw_bipush (v := 7) dX6_laysStep_26 (by decide) ?_
      refine aw_lushr dX6_laysStep_28 ?_
      refine aw_toplE (u7 hu) ?_
      refine aw_lstore_n [(3, .long (lN (u / 128))), (6, .int (nI (u % 128))), (5, .int 1), (0, .ref 0), (1, .long v)] dX6_laysStep_29 (Nat.le_of_ble_eq_true rfl) rfl ?_
      refine aw_lload_n dX6_laysStep_30 0 rfl ?_
      refine aw_lconst (v := 0) dX6_laysStep_31 (by decide) ?_
      refine aw_leq 40 dX6_laysStep_32 dX6_laysStep_33 (by decide) (fun c2 => absurd ((st_0 hu).mp c2) c) (fun c2 => ?_)
      refine aw_iconst (v := 1) dX6_laysStep_36 (by decide) ?_
      refine aw_goto 41 dX6_laysStep_37 (by decide) ?_
      refine aw_istore [(5, .int 1), (3, .long (lN (u / 128))), (6, .int (nI (u % 128))), (0, .ref 0), (1, .long v)] dX6_laysStep_41 (Nat.le_of_ble_eq_true rfl) rfl ?_
      refine aw_aload_n dX6_laysStep_43 3 rfl ?_
      refine aw_iload dX6_laysStep_44 0 rfl ?_
      refine aw_if_eq 58 dX6_laysStep_46 (by decide) (fun c3 => absurd c3 (by decide)) (fun c3 => ?_)
      refine aw_iload dX6_laysStep_49 2 rfl ?_
      refine aw_sipush (v := 128) dX6_laysStep_51 (by decide) ?_
      refine aw_iaddN (u % 128) 128 dX6_laysStep_54 rfl rfl ?_
      refine aw_goto 60 dX6_laysStep_55 (by decide) ?_
      refine aw_callVv [.int (nI ((u % 128) + 128))] [] (sp_ls (d := d - 1) (by omega) (l := l) (nI ((u % 128) + 128)) hT (by omega)) dX6_laysStep_60 ml_X6_240 im_X6_lays (((sT_emM M 0 13 8 l).TR hT).s 0 (by decide)) (((sT_emM M 0 13 8 l).TR hT).n 0 (by decide)) rfl rfl (dl1 (d := d) (by omega)) rfl rfl (Nat.le_of_ble_eq_true rfl) rfl rfl (Nat.zero_le _) (Nat.zero_le _) ?_
      refine aw_goto 12 dX6_laysStep_63 (by decide) ?_
      refine aw_sub [0, 1, 3, 4] rfl ?_
      exact q
theorem sp_lst {d : Nat} (hd : 1 ≤ d) {M : xM} {l : List Int32} (v : Int64) (hT : TR M) (hl : l.length + 10 ≤ 1500) : Sp (fX6_laysStep d) [.ref 0, .long v] (emM M 0 13 8 l) (dt none (emM M 0 13 8 (l ++ stB 9 (zgN v)))) := by
  refine Sp.of pn_X6 (Nat.le_of_ble_eq_true rfl) (fun h => Bool.noConfusion h) ?_
  obtain ⟨z1, z2⟩ := zgN_eq v
  refine aw_lload_n dX6_laysStep_0 1 rfl ?_
  refine aw_iconst (v := 1) dX6_laysStep_1 (by decide) ?_
  refine aw_lshl dX6_laysStep_2 ?_
  refine aw_lload_n dX6_laysStep_3 1 rfl ?_
  refine aw_bipush (v := 63) dX6_laysStep_4 (by decide) ?_
  refine aw_lshr dX6_laysStep_6 ?_
  refine aw_lxor dX6_laysStep_7 ?_
  refine aw_toplE z1 ?_
  refine aw_lstore_n [(3, .long (lN (zgN v))), (0, .ref 0), (1, .long v)] dX6_laysStep_8 (Nat.le_of_ble_eq_true rfl) rfl ?_
  refine aw_iconst (v := 1) dX6_laysStep_9 (by decide) ?_
  refine aw_istore [(5, .int 1), (3, .long (lN (zgN v))), (0, .ref 0), (1, .long v)] dX6_laysStep_10 (Nat.le_of_ble_eq_true rfl) rfl ?_
  exact lp_lst hd v hT 9 (zgN v) l z2 (Nat.lt_of_lt_of_le z2 (by decide)) (by omega)
