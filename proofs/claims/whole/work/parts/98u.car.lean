-- CARRY: contracts by outcome
theorem sp_carryE_P {d : Nat} (hd : 3 ≤ d) {M : xM} {t u : Nat} (x y : Int32) (hT : TC M) (ht : t < 12) (hu : u < 12) (h : sX2_hasPlace M (54 + 3 * t) x = false ∨ (sX2_hasPlace M (54 + 3 * t) x = true ∧ sX2_hasPlace M (54 + 3 * u) y = false)) : Sp (fX5_carryError d) [.ref 0, .ref (54 + 3 * t), .int x, .ref (54 + 3 * u), .int y] M (dt (some (.int (-8))) M) := by
  refine Sp.of pn_X5 (Nat.le_of_ble_eq_true rfl) (fun h => Bool.noConfusion h) ?_
  rcases h with h | ⟨h, h2⟩
  · refine aw_aload_n dX5_carryError_0 1 rfl ?_
    refine aw_iload_n dX5_carryError_1 2 rfl ?_
    refine aw_callVi [.int x] [] (sp_X2_hasPlace (d := d - 1) (by omega) x (hT.row (t := t) (by omega))) dX5_carryError_2 ml_X5_287 im_X2_hasPlace (hT.row (t := t) (by omega)).1 (hT.row (t := t) (by omega)).n0 rfl rfl (dl1 (d := d) (by omega)) rfl rfl (Nat.le_of_ble_eq_true rfl) rfl rfl (Nat.zero_le _) (Nat.zero_le _) ?_
    refine aw_if_eq 17 dX5_carryError_5 (by decide) (fun c1 => ?_) (fun c1 => absurd (bz_0.mpr h) c1)
    refine aw_bipush (v := -8) dX5_carryError_17 (by decide) ?_
    refine aw_iret dX5_carryError_19 rfl (Nat.zero_le _) (Nat.zero_le _) ?_
    exact ⟨rfl, rfl⟩
  · refine aw_aload_n dX5_carryError_0 1 rfl ?_
    refine aw_iload_n dX5_carryError_1 2 rfl ?_
    refine aw_callVi [.int x] [] (sp_X2_hasPlace (d := d - 1) (by omega) x (hT.row (t := t) (by omega))) dX5_carryError_2 ml_X5_287 im_X2_hasPlace (hT.row (t := t) (by omega)).1 (hT.row (t := t) (by omega)).n0 rfl rfl (dl1 (d := d) (by omega)) rfl rfl (Nat.le_of_ble_eq_true rfl) rfl rfl (Nat.zero_le _) (Nat.zero_le _) ?_
    refine aw_if_eq 17 dX5_carryError_5 (by decide) (fun c1 => absurd c1 (bz_n0.mpr h)) (fun c1 => ?_)
    refine aw_aload_n dX5_carryError_8 3 rfl ?_
    refine aw_iload dX5_carryError_9 4 rfl ?_
    refine aw_callVi [.int y] [] (sp_X2_hasPlace (d := d - 1) (by omega) y (hT.row (t := u) (by omega))) dX5_carryError_11 ml_X5_287 im_X2_hasPlace (hT.row (t := u) (by omega)).1 (hT.row (t := u) (by omega)).n0 rfl rfl (dl1 (d := d) (by omega)) rfl rfl (Nat.le_of_ble_eq_true rfl) rfl rfl (Nat.zero_le _) (Nat.zero_le _) ?_
    refine aw_if_ne 20 dX5_carryError_14 (by decide) (fun c2 => absurd (bz_0.mpr h2) c2) (fun c2 => ?_)
    refine aw_bipush (v := -8) dX5_carryError_17 (by decide) ?_
    refine aw_iret dX5_carryError_19 rfl (Nat.zero_le _) (Nat.zero_le _) ?_
    exact ⟨rfl, rfl⟩
theorem sp_carryE_K {d : Nat} (hd : 3 ≤ d) {M : xM} {t u i j b w : Nat} {v : Int64} (hT : TC M) (ht : t < 12) (hu : u < 12) (hi : i < 12) (hj : j < 12) (h1 : sX2_hasPlace M (54 + 3 * t) (nI i) = true) (h2 : sX2_hasPlace M (54 + 3 * u) (nI j) = true) (hb : mI M (54 + 3 * u) 0 = nI b) (hw : mI M (54 + 3 * t + 1) i = nI w) (hv : mL M (54 + 3 * t + 2) i = v) (h3 : sX5_accepts M (nI b) (nI w) v = false) : Sp (fX5_carryError d) [.ref 0, .ref (54 + 3 * t), .int (nI i), .ref (54 + 3 * u), .int (nI j)] M (dt (some (.int (-9))) M) := by
  refine Sp.of pn_X5 (Nat.le_of_ble_eq_true rfl) (fun h => Bool.noConfusion h) ?_
  refine aw_aload_n dX5_carryError_0 1 rfl ?_
  refine aw_iload_n dX5_carryError_1 2 rfl ?_
  refine aw_callVi [.int (nI i)] [] (sp_X2_hasPlace (d := d - 1) (by omega) (nI i) (hT.row (t := t) (by omega))) dX5_carryError_2 ml_X5_287 im_X2_hasPlace (hT.row (t := t) (by omega)).1 (hT.row (t := t) (by omega)).n0 rfl rfl (dl1 (d := d) (by omega)) rfl rfl (Nat.le_of_ble_eq_true rfl) rfl rfl (Nat.zero_le _) (Nat.zero_le _) ?_
  refine aw_if_eq 17 dX5_carryError_5 (by decide) (fun c1 => absurd c1 (bz_n0.mpr h1)) (fun c1 => ?_)
  refine aw_aload_n dX5_carryError_8 3 rfl ?_
  refine aw_iload dX5_carryError_9 4 rfl ?_
  refine aw_callVi [.int (nI j)] [] (sp_X2_hasPlace (d := d - 1) (by omega) (nI j) (hT.row (t := u) (by omega))) dX5_carryError_11 ml_X5_287 im_X2_hasPlace (hT.row (t := u) (by omega)).1 (hT.row (t := u) (by omega)).n0 rfl rfl (dl1 (d := d) (by omega)) rfl rfl (Nat.le_of_ble_eq_true rfl) rfl rfl (Nat.zero_le _) (Nat.zero_le _) ?_
  refine aw_if_ne 20 dX5_carryError_14 (by decide) (fun c2 => ?_) (fun c2 => absurd c2 (bz_n0.mpr h2))
  refine aw_aload_n dX5_carryError_20 0 rfl ?_
  refine aw_aload_n dX5_carryError_21 3 rfl ?_
  refine aw_getI dX5_carryError_22 fl_X5_98 (hT.row (t := u) (by omega)).1 (hT.row (t := u) (by omega)).n0 ?_
  refine aw_topE hb ?_
  refine aw_aload_n dX5_carryError_25 1 rfl ?_
  refine aw_getR (b := (54 + 3 * t) + 1) dX5_carryError_26 fl_X5_170 rfl (hT.row (t := t) (by omega)).1 (hT.row (t := t) (by omega)).n0 (hT.row (t := t) (by omega)).2.2.2.1 ?_
  refine aw_iload_n dX5_carryError_29 2 rfl ?_
  refine aw_ialdN i dX5_carryError_30 (hT.row (t := t) (by omega)).2.1 (hT.row (t := t) (by omega)).n1 rfl (by omega) (by first | decide | omega) ?_
  refine aw_topE hw ?_
  refine aw_aload_n dX5_carryError_31 1 rfl ?_
  refine aw_getR (b := (54 + 3 * t) + 2) dX5_carryError_32 fl_X5_142 rfl (hT.row (t := t) (by omega)).1 (hT.row (t := t) (by omega)).n0 (hT.row (t := t) (by omega)).2.2.2.2.1 ?_
  refine aw_iload_n dX5_carryError_35 2 rfl ?_
  refine aw_laldN i dX5_carryError_36 (hT.row (t := t) (by omega)).2.2.1 (hT.row (t := t) (by omega)).n2 rfl (by omega) (by first | decide | omega) ?_
  refine aw_toplE hv ?_
  refine aw_callVi [.int (nI b), .int (nI w), .long v] [] (sp_X5_accepts (d := d - 1) (by omega) (nI b) (nI w) v hT) dX5_carryError_37 ml_X5_305 im_X5_accepts (hT.s 0 (by decide)) (hT.n 0 (by decide)) rfl rfl (dl1 (d := d) (by omega)) rfl rfl (Nat.le_of_ble_eq_true rfl) rfl rfl (Nat.zero_le _) (Nat.zero_le _) ?_
  refine aw_if_eq 47 dX5_carryError_40 (by decide) (fun c3 => ?_) (fun c3 => absurd (bz_0.mpr h3) c3)
  refine aw_bipush (v := -9) dX5_carryError_47 (by decide) ?_
  refine aw_iret dX5_carryError_49 rfl (Nat.zero_le _) (Nat.zero_le _) ?_
  exact ⟨rfl, rfl⟩
theorem sp_carryE_O {d : Nat} (hd : 3 ≤ d) {M : xM} {t u i j b w : Nat} {v : Int64} (hT : TC M) (ht : t < 12) (hu : u < 12) (hi : i < 12) (hj : j < 12) (h1 : sX2_hasPlace M (54 + 3 * t) (nI i) = true) (h2 : sX2_hasPlace M (54 + 3 * u) (nI j) = true) (hb : mI M (54 + 3 * u) 0 = nI b) (hw : mI M (54 + 3 * t + 1) i = nI w) (hv : mL M (54 + 3 * t + 2) i = v) (h3 : sX5_accepts M (nI b) (nI w) v = true) : Sp (fX5_carryError d) [.ref 0, .ref (54 + 3 * t), .int (nI i), .ref (54 + 3 * u), .int (nI j)] M (dt (some (.int (0))) M) := by
  refine Sp.of pn_X5 (Nat.le_of_ble_eq_true rfl) (fun h => Bool.noConfusion h) ?_
  refine aw_aload_n dX5_carryError_0 1 rfl ?_
  refine aw_iload_n dX5_carryError_1 2 rfl ?_
  refine aw_callVi [.int (nI i)] [] (sp_X2_hasPlace (d := d - 1) (by omega) (nI i) (hT.row (t := t) (by omega))) dX5_carryError_2 ml_X5_287 im_X2_hasPlace (hT.row (t := t) (by omega)).1 (hT.row (t := t) (by omega)).n0 rfl rfl (dl1 (d := d) (by omega)) rfl rfl (Nat.le_of_ble_eq_true rfl) rfl rfl (Nat.zero_le _) (Nat.zero_le _) ?_
  refine aw_if_eq 17 dX5_carryError_5 (by decide) (fun c1 => absurd c1 (bz_n0.mpr h1)) (fun c1 => ?_)
  refine aw_aload_n dX5_carryError_8 3 rfl ?_
  refine aw_iload dX5_carryError_9 4 rfl ?_
  refine aw_callVi [.int (nI j)] [] (sp_X2_hasPlace (d := d - 1) (by omega) (nI j) (hT.row (t := u) (by omega))) dX5_carryError_11 ml_X5_287 im_X2_hasPlace (hT.row (t := u) (by omega)).1 (hT.row (t := u) (by omega)).n0 rfl rfl (dl1 (d := d) (by omega)) rfl rfl (Nat.le_of_ble_eq_true rfl) rfl rfl (Nat.zero_le _) (Nat.zero_le _) ?_
  refine aw_if_ne 20 dX5_carryError_14 (by decide) (fun c2 => ?_) (fun c2 => absurd c2 (bz_n0.mpr h2))
  refine aw_aload_n dX5_carryError_20 0 rfl ?_
  refine aw_aload_n dX5_carryError_21 3 rfl ?_
  refine aw_getI dX5_carryError_22 fl_X5_98 (hT.row (t := u) (by omega)).1 (hT.row (t := u) (by omega)).n0 ?_
  refine aw_topE hb ?_
  refine aw_aload_n dX5_carryError_25 1 rfl ?_
  refine aw_getR (b := (54 + 3 * t) + 1) dX5_carryError_26 fl_X5_170 rfl (hT.row (t := t) (by omega)).1 (hT.row (t := t) (by omega)).n0 (hT.row (t := t) (by omega)).2.2.2.1 ?_
  refine aw_iload_n dX5_carryError_29 2 rfl ?_
  refine aw_ialdN i dX5_carryError_30 (hT.row (t := t) (by omega)).2.1 (hT.row (t := t) (by omega)).n1 rfl (by omega) (by first | decide | omega) ?_
  refine aw_topE hw ?_
  refine aw_aload_n dX5_carryError_31 1 rfl ?_
  refine aw_getR (b := (54 + 3 * t) + 2) dX5_carryError_32 fl_X5_142 rfl (hT.row (t := t) (by omega)).1 (hT.row (t := t) (by omega)).n0 (hT.row (t := t) (by omega)).2.2.2.2.1 ?_
  refine aw_iload_n dX5_carryError_35 2 rfl ?_
  refine aw_laldN i dX5_carryError_36 (hT.row (t := t) (by omega)).2.2.1 (hT.row (t := t) (by omega)).n2 rfl (by omega) (by first | decide | omega) ?_
  refine aw_toplE hv ?_
  refine aw_callVi [.int (nI b), .int (nI w), .long v] [] (sp_X5_accepts (d := d - 1) (by omega) (nI b) (nI w) v hT) dX5_carryError_37 ml_X5_305 im_X5_accepts (hT.s 0 (by decide)) (hT.n 0 (by decide)) rfl rfl (dl1 (d := d) (by omega)) rfl rfl (Nat.le_of_ble_eq_true rfl) rfl rfl (Nat.zero_le _) (Nat.zero_le _) ?_
  refine aw_if_eq 47 dX5_carryError_40 (by decide) (fun c3 => absurd c3 (bz_n0.mpr h3)) (fun c3 => ?_)
  refine aw_iconst (v := 0) dX5_carryError_43 (by decide) ?_
  refine aw_goto 49 dX5_carryError_44 (by decide) ?_
  refine aw_iret dX5_carryError_49 rfl (Nat.zero_le _) (Nat.zero_le _) ?_
  exact ⟨rfl, rfl⟩
theorem ca_Z {d : Nat} (hd : 6 ≤ d) {M : xM} (t u N : Nat) (x y e : Int32) (hT : TC M) (ht : t < 12) (hu : u < 12) (hN : N ≤ 12) : AW (fX5_carry d) 40 [(7, .int (nI N)), (6, .int e), (0, .ref 0), (1, .int (nI t)), (2, .int x), (3, .int (nI u)), (4, .int y), (5, .int (nI N))] [] M 0 0 (dt (some (.int (nI N))) (tX5_report M 0 (-1))) := by
  refine aw_iload dX5_carry_40 0 rfl ?_
  refine aw_iload dX5_carry_42 7 rfl ?_
  refine aw_icmp_geN N N 139 dX5_carry_44 (by decide) rfl rfl (by omega) (by omega) (fun c1 => ?_) (fun c1 => absurd (by omega) c1)
  refine aw_aload_n dX5_carry_139 2 rfl ?_
  refine aw_iconst (v := 0) dX5_carry_140 (by decide) ?_
  refine aw_iconst (v := -1) dX5_carry_141 (by decide) ?_
  refine aw_callVi [.int 0, .int (-1)] [] (sp_X5_report (d := d - 1) (by omega) 0 (-1) hT) dX5_carry_142 ml_X5_138 im_X5_report (hT.s 0 (by decide)) (hT.n 0 (by decide)) rfl rfl (dl1 (d := d) (by omega)) rfl rfl (Nat.le_of_ble_eq_true rfl) rfl rfl (Nat.zero_le _) (Nat.zero_le _) ?_
  refine aw_pop dX5_carry_145 rfl ?_
  refine aw_iload dX5_carry_146 7 rfl ?_
  refine aw_iret dX5_carry_148 rfl (Nat.zero_le _) (Nat.zero_le _) ?_
  exact ⟨rfl, rfl⟩
theorem ca_P {d : Nat} (hd : 6 ≤ d) {M : xM} (t u N k : Nat) (x y e : Int32) (hT : TC M) (ht : t < 12) (hu : u < 12) (hN : N ≤ 12) (hk : k < N) (h : sX2_hasPlace M (54 + 3 * t) (x + nI k) = false ∨ (sX2_hasPlace M (54 + 3 * t) (x + nI k) = true ∧ sX2_hasPlace M (54 + 3 * u) (y + nI k) = false)) : AW (fX5_carry d) 40 [(7, .int (nI k)), (6, .int e), (0, .ref 0), (1, .int (nI t)), (2, .int x), (3, .int (nI u)), (4, .int y), (5, .int (nI N))] [] M 0 0 (dt (some (.int (nI k))) (tX5_report M (-8) (nI k))) := by
  refine aw_iload dX5_carry_40 0 rfl ?_
  refine aw_iload dX5_carry_42 7 rfl ?_
  refine aw_icmp_geN k N 139 dX5_carry_44 (by decide) rfl rfl (by omega) (by omega) (fun c1 => absurd c1 (by omega)) (fun c1 => ?_)
  refine aw_aload_n dX5_carry_47 2 rfl ?_
  refine aw_aload_n dX5_carry_48 2 rfl ?_
  refine aw_getR (b := 1) dX5_carry_49 fl_X5_11 rfl (hT.s 0 (by decide)) (hT.n 0 (by decide)) (hT.r 0 0 (by decide) (by decide)) ?_
  refine aw_iload_n dX5_carry_52 3 rfl ?_
  refine aw_aaldN t (54 + 3 * t) dX5_carry_53 (hT.s 1 (by decide)) (hT.n 1 (by decide)) rfl (by omega) (by first | decide | omega) (hT.slot (by omega)) ?_
  refine aw_iload_n dX5_carry_54 4 rfl ?_
  refine aw_iload dX5_carry_55 0 rfl ?_
  refine aw_iadd dX5_carry_57 ?_
  refine aw_aload_n dX5_carry_58 2 rfl ?_
  refine aw_getR (b := 1) dX5_carry_59 fl_X5_11 rfl (hT.s 0 (by decide)) (hT.n 0 (by decide)) (hT.r 0 0 (by decide) (by decide)) ?_
  refine aw_iload_n dX5_carry_62 5 rfl ?_
  refine aw_aaldN u (54 + 3 * u) dX5_carry_63 (hT.s 1 (by decide)) (hT.n 1 (by decide)) rfl (by omega) (by first | decide | omega) (hT.slot (by omega)) ?_
  refine aw_iload dX5_carry_64 6 rfl ?_
  refine aw_iload dX5_carry_66 0 rfl ?_
  refine aw_iadd dX5_carry_68 ?_
  refine aw_callVi [.ref (54 + 3 * t), .int (x + (nI k)), .ref (54 + 3 * u), .int (y + (nI k))] [] (sp_carryE_P (d := d - 1) (by omega) (x + nI k) (y + nI k) hT ht hu h) dX5_carry_69 ml_X5_182 im_X5_carryError (hT.s 0 (by decide)) (hT.n 0 (by decide)) rfl rfl (dl1 (d := d) (by omega)) rfl rfl (Nat.le_of_ble_eq_true rfl) rfl rfl (Nat.zero_le _) (Nat.zero_le _) ?_
  refine aw_istore [(6, .int (-8)), (7, .int (nI k)), (0, .ref 0), (1, .int (nI t)), (2, .int x), (3, .int (nI u)), (4, .int y), (5, .int (nI N))] dX5_carry_72 (Nat.le_of_ble_eq_true rfl) rfl ?_
  refine aw_iload dX5_carry_74 0 rfl ?_
  refine aw_if_eq 91 dX5_carry_76 (by decide) (fun c2 => absurd c2 (by decide)) (fun c2 => ?_)
  refine aw_aload_n dX5_carry_79 2 rfl ?_
  refine aw_iload dX5_carry_80 0 rfl ?_
  refine aw_iload dX5_carry_82 1 rfl ?_
  refine aw_callVi [.int (-8), .int (nI k)] [] (sp_X5_report (d := d - 1) (by omega) (-8) (nI k) hT) dX5_carry_84 ml_X5_138 im_X5_report (hT.s 0 (by decide)) (hT.n 0 (by decide)) rfl rfl (dl1 (d := d) (by omega)) rfl rfl (Nat.le_of_ble_eq_true rfl) rfl rfl (Nat.zero_le _) (Nat.zero_le _) ?_
  refine aw_pop dX5_carry_87 rfl ?_
  refine aw_iload dX5_carry_88 1 rfl ?_
  refine aw_iret dX5_carry_90 rfl (Nat.zero_le _) (Nat.zero_le _) ?_
  exact ⟨rfl, rfl⟩
theorem ca_K {d : Nat} (hd : 6 ≤ d) {M : xM} (t u N k : Nat) (x y e : Int32) (hT : TC M) (ht : t < 12) (hu : u < 12) (hN : N ≤ 12) (hk : k < N) {i j b w : Nat} {v : Int64} (e1 : x + nI k = nI i) (e2 : y + nI k = nI j) (hi : i < 12) (hj : j < 12) (h1 : sX2_hasPlace M (54 + 3 * t) (nI i) = true) (h2 : sX2_hasPlace M (54 + 3 * u) (nI j) = true) (hb : mI M (54 + 3 * u) 0 = nI b) (hw : mI M (54 + 3 * t + 1) i = nI w) (hv : mL M (54 + 3 * t + 2) i = v) (h3 : sX5_accepts M (nI b) (nI w) v = false) : AW (fX5_carry d) 40 [(7, .int (nI k)), (6, .int e), (0, .ref 0), (1, .int (nI t)), (2, .int x), (3, .int (nI u)), (4, .int y), (5, .int (nI N))] [] M 0 0 (dt (some (.int (nI k))) (tX5_report M (-9) (nI k))) := by
  refine aw_iload dX5_carry_40 0 rfl ?_
  refine aw_iload dX5_carry_42 7 rfl ?_
  refine aw_icmp_geN k N 139 dX5_carry_44 (by decide) rfl rfl (by omega) (by omega) (fun c1 => absurd c1 (by omega)) (fun c1 => ?_)
  refine aw_aload_n dX5_carry_47 2 rfl ?_
  refine aw_aload_n dX5_carry_48 2 rfl ?_
  refine aw_getR (b := 1) dX5_carry_49 fl_X5_11 rfl (hT.s 0 (by decide)) (hT.n 0 (by decide)) (hT.r 0 0 (by decide) (by decide)) ?_
  refine aw_iload_n dX5_carry_52 3 rfl ?_
  refine aw_aaldN t (54 + 3 * t) dX5_carry_53 (hT.s 1 (by decide)) (hT.n 1 (by decide)) rfl (by omega) (by first | decide | omega) (hT.slot (by omega)) ?_
  refine aw_iload_n dX5_carry_54 4 rfl ?_
  refine aw_iload dX5_carry_55 0 rfl ?_
  refine aw_iadd dX5_carry_57 ?_
  refine aw_topE e1 ?_
  refine aw_aload_n dX5_carry_58 2 rfl ?_
  refine aw_getR (b := 1) dX5_carry_59 fl_X5_11 rfl (hT.s 0 (by decide)) (hT.n 0 (by decide)) (hT.r 0 0 (by decide) (by decide)) ?_
  refine aw_iload_n dX5_carry_62 5 rfl ?_
  refine aw_aaldN u (54 + 3 * u) dX5_carry_63 (hT.s 1 (by decide)) (hT.n 1 (by decide)) rfl (by omega) (by first | decide | omega) (hT.slot (by omega)) ?_
  refine aw_iload dX5_carry_64 6 rfl ?_
  refine aw_iload dX5_carry_66 0 rfl ?_
  refine aw_iadd dX5_carry_68 ?_
  refine aw_topE e2 ?_
  refine aw_callVi [.ref (54 + 3 * t), .int (nI i), .ref (54 + 3 * u), .int (nI j)] [] (sp_carryE_K (d := d - 1) (by omega) hT ht hu hi hj h1 h2 hb hw hv h3) dX5_carry_69 ml_X5_182 im_X5_carryError (hT.s 0 (by decide)) (hT.n 0 (by decide)) rfl rfl (dl1 (d := d) (by omega)) rfl rfl (Nat.le_of_ble_eq_true rfl) rfl rfl (Nat.zero_le _) (Nat.zero_le _) ?_
  refine aw_istore [(6, .int (-9)), (7, .int (nI k)), (0, .ref 0), (1, .int (nI t)), (2, .int x), (3, .int (nI u)), (4, .int y), (5, .int (nI N))] dX5_carry_72 (Nat.le_of_ble_eq_true rfl) rfl ?_
  refine aw_iload dX5_carry_74 0 rfl ?_
  refine aw_if_eq 91 dX5_carry_76 (by decide) (fun c2 => absurd c2 (by decide)) (fun c2 => ?_)
  refine aw_aload_n dX5_carry_79 2 rfl ?_
  refine aw_iload dX5_carry_80 0 rfl ?_
  refine aw_iload dX5_carry_82 1 rfl ?_
  refine aw_callVi [.int (-9), .int (nI k)] [] (sp_X5_report (d := d - 1) (by omega) (-9) (nI k) hT) dX5_carry_84 ml_X5_138 im_X5_report (hT.s 0 (by decide)) (hT.n 0 (by decide)) rfl rfl (dl1 (d := d) (by omega)) rfl rfl (Nat.le_of_ble_eq_true rfl) rfl rfl (Nat.zero_le _) (Nat.zero_le _) ?_
  refine aw_pop dX5_carry_87 rfl ?_
  refine aw_iload dX5_carry_88 1 rfl ?_
  refine aw_iret dX5_carry_90 rfl (Nat.zero_le _) (Nat.zero_le _) ?_
  exact ⟨rfl, rfl⟩
theorem ca_O {d : Nat} (hd : 6 ≤ d) {M : xM} (t u N k : Nat) (x y e : Int32) (hT : TC M) (ht : t < 12) (hu : u < 12) (hN : N ≤ 12) (hk : k < N) {i j b w : Nat} {v : Int64} (e1 : x + nI k = nI i) (e2 : y + nI k = nI j) (hi : i < 12) (hj : j < 12) (h1 : sX2_hasPlace M (54 + 3 * t) (nI i) = true) (h2 : sX2_hasPlace M (54 + 3 * u) (nI j) = true) (hb : mI M (54 + 3 * u) 0 = nI b) (hw : mI M (54 + 3 * t + 1) i = nI w) (hv : mL M (54 + 3 * t + 2) i = v) (h3 : sX5_accepts M (nI b) (nI w) v = true) (hb14 : b < 14) (hw8 : b < 8 → w < 8) (h6 : w = 6 → okF 6 v) {post : Option Value → xM → Prop} (hk2 : AW (fX5_carry d) 40 [(7, .int (nI (k + 1))), (6, .int 0), (0, .ref 0), (1, .int (nI t)), (2, .int x), (3, .int (nI u)), (4, .int y), (5, .int (nI N))] [] (filM M (54 + 3 * u) j (nI (hwt b w)) (hvl b w v)) 0 0 post) : AW (fX5_carry d) 40 [(7, .int (nI k)), (6, .int e), (0, .ref 0), (1, .int (nI t)), (2, .int x), (3, .int (nI u)), (4, .int y), (5, .int (nI N))] [] M 0 0 post := by
  refine aw_iload dX5_carry_40 0 rfl ?_
  refine aw_iload dX5_carry_42 7 rfl ?_
  refine aw_icmp_geN k N 139 dX5_carry_44 (by decide) rfl rfl (by omega) (by omega) (fun c1 => absurd c1 (by omega)) (fun c1 => ?_)
  refine aw_aload_n dX5_carry_47 2 rfl ?_
  refine aw_aload_n dX5_carry_48 2 rfl ?_
  refine aw_getR (b := 1) dX5_carry_49 fl_X5_11 rfl (hT.s 0 (by decide)) (hT.n 0 (by decide)) (hT.r 0 0 (by decide) (by decide)) ?_
  refine aw_iload_n dX5_carry_52 3 rfl ?_
  refine aw_aaldN t (54 + 3 * t) dX5_carry_53 (hT.s 1 (by decide)) (hT.n 1 (by decide)) rfl (by omega) (by first | decide | omega) (hT.slot (by omega)) ?_
  refine aw_iload_n dX5_carry_54 4 rfl ?_
  refine aw_iload dX5_carry_55 0 rfl ?_
  refine aw_iadd dX5_carry_57 ?_
  refine aw_topE e1 ?_
  refine aw_aload_n dX5_carry_58 2 rfl ?_
  refine aw_getR (b := 1) dX5_carry_59 fl_X5_11 rfl (hT.s 0 (by decide)) (hT.n 0 (by decide)) (hT.r 0 0 (by decide) (by decide)) ?_
  refine aw_iload_n dX5_carry_62 5 rfl ?_
  refine aw_aaldN u (54 + 3 * u) dX5_carry_63 (hT.s 1 (by decide)) (hT.n 1 (by decide)) rfl (by omega) (by first | decide | omega) (hT.slot (by omega)) ?_
  refine aw_iload dX5_carry_64 6 rfl ?_
  refine aw_iload dX5_carry_66 0 rfl ?_
  refine aw_iadd dX5_carry_68 ?_
  refine aw_topE e2 ?_
  refine aw_callVi [.ref (54 + 3 * t), .int (nI i), .ref (54 + 3 * u), .int (nI j)] [] (sp_carryE_O (d := d - 1) (by omega) hT ht hu hi hj h1 h2 hb hw hv h3) dX5_carry_69 ml_X5_182 im_X5_carryError (hT.s 0 (by decide)) (hT.n 0 (by decide)) rfl rfl (dl1 (d := d) (by omega)) rfl rfl (Nat.le_of_ble_eq_true rfl) rfl rfl (Nat.zero_le _) (Nat.zero_le _) ?_
  refine aw_istore [(6, .int 0), (7, .int (nI k)), (0, .ref 0), (1, .int (nI t)), (2, .int x), (3, .int (nI u)), (4, .int y), (5, .int (nI N))] dX5_carry_72 (Nat.le_of_ble_eq_true rfl) rfl ?_
  refine aw_iload dX5_carry_74 0 rfl ?_
  refine aw_if_eq 91 dX5_carry_76 (by decide) (fun c2 => ?_) (fun c2 => absurd rfl c2)
  refine aw_aload_n dX5_carry_91 2 rfl ?_
  refine aw_getR (b := 1) dX5_carry_92 fl_X5_11 rfl (hT.s 0 (by decide)) (hT.n 0 (by decide)) (hT.r 0 0 (by decide) (by decide)) ?_
  refine aw_iload_n dX5_carry_95 5 rfl ?_
  refine aw_aaldN u (54 + 3 * u) dX5_carry_96 (hT.s 1 (by decide)) (hT.n 1 (by decide)) rfl (by omega) (by first | decide | omega) (hT.slot (by omega)) ?_
  refine aw_iload dX5_carry_97 6 rfl ?_
  refine aw_iload dX5_carry_99 1 rfl ?_
  refine aw_iadd dX5_carry_101 ?_
  refine aw_topE e2 ?_
  refine aw_aload_n dX5_carry_102 2 rfl ?_
  refine aw_getR (b := 1) dX5_carry_103 fl_X5_11 rfl (hT.s 0 (by decide)) (hT.n 0 (by decide)) (hT.r 0 0 (by decide) (by decide)) ?_
  refine aw_iload_n dX5_carry_106 3 rfl ?_
  refine aw_aaldN t (54 + 3 * t) dX5_carry_107 (hT.s 1 (by decide)) (hT.n 1 (by decide)) rfl (by omega) (by first | decide | omega) (hT.slot (by omega)) ?_
  refine aw_getR (b := (54 + 3 * t) + 1) dX5_carry_108 fl_X5_170 rfl (hT.row (t := t) (by omega)).1 (hT.row (t := t) (by omega)).n0 (hT.row (t := t) (by omega)).2.2.2.1 ?_
  refine aw_iload_n dX5_carry_111 4 rfl ?_
  refine aw_iload dX5_carry_112 1 rfl ?_
  refine aw_iadd dX5_carry_114 ?_
  refine aw_topE e1 ?_
  refine aw_ialdN i dX5_carry_115 (hT.row (t := t) (by omega)).2.1 (hT.row (t := t) (by omega)).n1 rfl (by omega) (by first | decide | omega) ?_
  refine aw_topE hw ?_
  refine aw_aload_n dX5_carry_116 2 rfl ?_
  refine aw_getR (b := 1) dX5_carry_117 fl_X5_11 rfl (hT.s 0 (by decide)) (hT.n 0 (by decide)) (hT.r 0 0 (by decide) (by decide)) ?_
  refine aw_iload_n dX5_carry_120 3 rfl ?_
  refine aw_aaldN t (54 + 3 * t) dX5_carry_121 (hT.s 1 (by decide)) (hT.n 1 (by decide)) rfl (by omega) (by first | decide | omega) (hT.slot (by omega)) ?_
  refine aw_getR (b := (54 + 3 * t) + 2) dX5_carry_122 fl_X5_142 rfl (hT.row (t := t) (by omega)).1 (hT.row (t := t) (by omega)).n0 (hT.row (t := t) (by omega)).2.2.2.2.1 ?_
  refine aw_iload_n dX5_carry_125 4 rfl ?_
  refine aw_iload dX5_carry_126 1 rfl ?_
  refine aw_iadd dX5_carry_128 ?_
  refine aw_topE e1 ?_
  refine aw_laldN i dX5_carry_129 (hT.row (t := t) (by omega)).2.2.1 (hT.row (t := t) (by omega)).n2 rfl (by omega) (by first | decide | omega) ?_
  refine aw_toplE hv ?_
  refine aw_callVv [.int (nI j), .int (nI w), .long v] [] (sp_X2_hold (d := d - 1) (by omega) j b w v (hT.row hu) (by omega) hb14 hb hw8 h6) dX5_carry_130 ml_X5_160 im_X2_hold (hT.row (t := u) (by omega)).1 (hT.row (t := u) (by omega)).n0 rfl rfl (dl1 (d := d) (by omega)) rfl rfl (Nat.le_of_ble_eq_true rfl) rfl rfl (Nat.zero_le _) (Nat.zero_le _) ?_
  refine aw_iincN k 1 [(7, .int (nI (k + 1))), (6, .int 0), (0, .ref 0), (1, .int (nI t)), (2, .int x), (3, .int (nI u)), (4, .int y), (5, .int (nI N))] dX5_carry_133 1 rfl rfl rfl (Nat.le_of_ble_eq_true rfl) rfl ?_
  refine aw_goto 40 dX5_carry_136 (by decide) ?_
  exact hk2
theorem cr_Z {d : Nat} (hd : 4 ≤ d) {M : xM} (t u N : Nat) (x y e : Int32) (hT : TR M) (ht : t < 12) (hu : u < 12) (hN : N ≤ 12) : AW (fX6_carry d) 60 [(7, .int (nI N)), (6, .int e), (0, .ref 0), (1, .int (nI t)), (2, .int x), (3, .int (nI u)), (4, .int y), (5, .int (nI N))] [] M 0 0 (dt (some (.int (nI N))) (tX6_tells M 0 (-1))) := by
  refine aw_iload dX6_carry_60 0 rfl ?_
  refine aw_iload dX6_carry_62 7 rfl ?_
  refine aw_icmp_geN N N 205 dX6_carry_64 (by decide) rfl rfl (by omega) (by omega) (fun c1 => ?_) (fun c1 => absurd (by omega) c1)
  refine aw_aload_n dX6_carry_205 2 rfl ?_
  refine aw_iconst (v := 0) dX6_carry_206 (by decide) ?_
  refine aw_iconst (v := -1) dX6_carry_207 (by decide) ?_
  refine aw_callVi [.int 0, .int (-1)] [] (sp_X6_tells (d := d - 1) (by omega) 0 (-1) hT) dX6_carry_208 ml_X6_192 im_X6_tells (hT.s 0 (by decide)) (hT.n 0 (by decide)) rfl rfl (dl1 (d := d) (by omega)) rfl rfl (Nat.le_of_ble_eq_true rfl) rfl rfl (Nat.zero_le _) (Nat.zero_le _) ?_
  refine aw_pop dX6_carry_211 rfl ?_
  refine aw_iload dX6_carry_212 7 rfl ?_
  refine aw_iret dX6_carry_214 rfl (Nat.zero_le _) (Nat.zero_le _) ?_
  exact ⟨rfl, rfl⟩
theorem cr_P {d : Nat} (hd : 4 ≤ d) {M : xM} (t u N k : Nat) (x y e : Int32) (hT : TR M) (ht : t < 12) (hu : u < 12) (hN : N ≤ 12) (hk : k < N) (h : sX6_isPlace M (nI t) (x.toInt64 + lN k) = false ∨ (sX6_isPlace M (nI t) (x.toInt64 + lN k) = true ∧ sX6_isPlace M (nI u) (y.toInt64 + lN k) = false)) : AW (fX6_carry d) 60 [(7, .int (nI k)), (6, .int e), (0, .ref 0), (1, .int (nI t)), (2, .int x), (3, .int (nI u)), (4, .int y), (5, .int (nI N))] [] M 0 0 (dt (some (.int (nI k))) (tX6_tells M (-8) (nI k))) := by
  rcases h with h | ⟨h, h2⟩
  · refine aw_iload dX6_carry_60 0 rfl ?_
    refine aw_iload dX6_carry_62 7 rfl ?_
    refine aw_icmp_geN k N 205 dX6_carry_64 (by decide) rfl rfl (by omega) (by omega) (fun c1 => absurd c1 (by omega)) (fun c1 => ?_)
    refine aw_aload_n dX6_carry_67 2 rfl ?_
    refine aw_iload_n dX6_carry_68 3 rfl ?_
    refine aw_iload_n dX6_carry_69 4 rfl ?_
    refine aw_i2l dX6_carry_70 ?_
    refine aw_iload dX6_carry_71 0 rfl ?_
    refine aw_i2lN k dX6_carry_73 rfl (by omega) ?_
    refine aw_ladd dX6_carry_74 ?_
    refine aw_callVi [.int (nI t), .long ((Int32.toInt64 x) + (lN k))] [] (sp_X6_isPlace (d := d - 1) (by omega) (nI t) ((Int32.toInt64 x) + (lN k)) hT (vp_in_nI (by omega) (by decide))) dX6_carry_75 ml_X6_186 im_X6_isPlace (hT.s 0 (by decide)) (hT.n 0 (by decide)) rfl rfl (dl1 (d := d) (by omega)) rfl rfl (Nat.le_of_ble_eq_true rfl) rfl rfl (Nat.zero_le _) (Nat.zero_le _) ?_
    refine aw_if_eq 96 dX6_carry_78 (by decide) (fun c2 => ?_) (fun c2 => absurd (bz_0.mpr h) c2)
    refine aw_aload_n dX6_carry_96 2 rfl ?_
    refine aw_bipush (v := -8) dX6_carry_97 (by decide) ?_
    refine aw_iload dX6_carry_99 0 rfl ?_
    refine aw_callVi [.int (-8), .int (nI k)] [] (sp_X6_tells (d := d - 1) (by omega) (-8) (nI k) hT) dX6_carry_101 ml_X6_192 im_X6_tells (hT.s 0 (by decide)) (hT.n 0 (by decide)) rfl rfl (dl1 (d := d) (by omega)) rfl rfl (Nat.le_of_ble_eq_true rfl) rfl rfl (Nat.zero_le _) (Nat.zero_le _) ?_
    refine aw_pop dX6_carry_104 rfl ?_
    refine aw_iload dX6_carry_105 0 rfl ?_
    refine aw_iret dX6_carry_107 rfl (Nat.zero_le _) (Nat.zero_le _) ?_
    exact ⟨rfl, rfl⟩
  · refine aw_iload dX6_carry_60 0 rfl ?_
    refine aw_iload dX6_carry_62 7 rfl ?_
    refine aw_icmp_geN k N 205 dX6_carry_64 (by decide) rfl rfl (by omega) (by omega) (fun c1 => absurd c1 (by omega)) (fun c1 => ?_)
    refine aw_aload_n dX6_carry_67 2 rfl ?_
    refine aw_iload_n dX6_carry_68 3 rfl ?_
    refine aw_iload_n dX6_carry_69 4 rfl ?_
    refine aw_i2l dX6_carry_70 ?_
    refine aw_iload dX6_carry_71 0 rfl ?_
    refine aw_i2lN k dX6_carry_73 rfl (by omega) ?_
    refine aw_ladd dX6_carry_74 ?_
    refine aw_callVi [.int (nI t), .long ((Int32.toInt64 x) + (lN k))] [] (sp_X6_isPlace (d := d - 1) (by omega) (nI t) ((Int32.toInt64 x) + (lN k)) hT (vp_in_nI (by omega) (by decide))) dX6_carry_75 ml_X6_186 im_X6_isPlace (hT.s 0 (by decide)) (hT.n 0 (by decide)) rfl rfl (dl1 (d := d) (by omega)) rfl rfl (Nat.le_of_ble_eq_true rfl) rfl rfl (Nat.zero_le _) (Nat.zero_le _) ?_
    refine aw_if_eq 96 dX6_carry_78 (by decide) (fun c2 => absurd c2 (bz_n0.mpr h)) (fun c2 => ?_)
    refine aw_aload_n dX6_carry_81 2 rfl ?_
    refine aw_iload_n dX6_carry_82 5 rfl ?_
    refine aw_iload dX6_carry_83 6 rfl ?_
    refine aw_i2l dX6_carry_85 ?_
    refine aw_iload dX6_carry_86 0 rfl ?_
    refine aw_i2lN k dX6_carry_88 rfl (by omega) ?_
    refine aw_ladd dX6_carry_89 ?_
    refine aw_callVi [.int (nI u), .long ((Int32.toInt64 y) + (lN k))] [] (sp_X6_isPlace (d := d - 1) (by omega) (nI u) ((Int32.toInt64 y) + (lN k)) hT (vp_in_nI (by omega) (by decide))) dX6_carry_90 ml_X6_186 im_X6_isPlace (hT.s 0 (by decide)) (hT.n 0 (by decide)) rfl rfl (dl1 (d := d) (by omega)) rfl rfl (Nat.le_of_ble_eq_true rfl) rfl rfl (Nat.zero_le _) (Nat.zero_le _) ?_
    refine aw_if_ne 108 dX6_carry_93 (by decide) (fun c3 => absurd (bz_0.mpr h2) c3) (fun c3 => ?_)
    refine aw_aload_n dX6_carry_96 2 rfl ?_
    refine aw_bipush (v := -8) dX6_carry_97 (by decide) ?_
    refine aw_iload dX6_carry_99 0 rfl ?_
    refine aw_callVi [.int (-8), .int (nI k)] [] (sp_X6_tells (d := d - 1) (by omega) (-8) (nI k) hT) dX6_carry_101 ml_X6_192 im_X6_tells (hT.s 0 (by decide)) (hT.n 0 (by decide)) rfl rfl (dl1 (d := d) (by omega)) rfl rfl (Nat.le_of_ble_eq_true rfl) rfl rfl (Nat.zero_le _) (Nat.zero_le _) ?_
    refine aw_pop dX6_carry_104 rfl ?_
    refine aw_iload dX6_carry_105 0 rfl ?_
    refine aw_iret dX6_carry_107 rfl (Nat.zero_le _) (Nat.zero_le _) ?_
    exact ⟨rfl, rfl⟩
theorem ix {t i k : Nat} {x : Int32} (e : x + nI k = nI i) : nI (12 * t) + x + nI k = nI (12 * t + i) := by
  rw [Int32.add_assoc, e, nI_add]
theorem cr_K {d : Nat} (hd : 4 ≤ d) {M : xM} (t u N k : Nat) (x y e : Int32) (hT : TR M) (ht : t < 12) (hu : u < 12) (hN : N ≤ 12) (hk : k < N) {i j b w : Nat} {v : Int64} (e1 : x + nI k = nI i) (e2 : y + nI k = nI j) (hi : i < 12) (hj : j < 12) (h1 : sX6_isPlace M (nI t) (x.toInt64 + lN k) = true) (h2 : sX6_isPlace M (nI u) (y.toInt64 + lN k) = true) (hb : mI M 1 u = nI b) (hw : mI M 4 (12 * t + i) = nI w) (hv : mL M 5 (12 * t + i) = v) (hb14 : b < 14) (hw12 : w < 12) (h13 : b = 13 → w = 10 → vp_in v.toInt32 24) (h6 : w = 6 → okF 6 v) (h3 : tkB (kd4 M v) b w v = false) : AW (fX6_carry d) 60 [(7, .int (nI k)), (6, .int e), (0, .ref 0), (1, .int (nI t)), (2, .int x), (3, .int (nI u)), (4, .int y), (5, .int (nI N))] [] M 0 0 (dt (some (.int (nI k))) (tX6_tells (tkM M (nI w) v) (-9) (nI k))) := by
  refine aw_iload dX6_carry_60 0 rfl ?_
  refine aw_iload dX6_carry_62 7 rfl ?_
  refine aw_icmp_geN k N 205 dX6_carry_64 (by decide) rfl rfl (by omega) (by omega) (fun c1 => absurd c1 (by omega)) (fun c1 => ?_)
  refine aw_aload_n dX6_carry_67 2 rfl ?_
  refine aw_iload_n dX6_carry_68 3 rfl ?_
  refine aw_iload_n dX6_carry_69 4 rfl ?_
  refine aw_i2l dX6_carry_70 ?_
  refine aw_iload dX6_carry_71 0 rfl ?_
  refine aw_i2lN k dX6_carry_73 rfl (by omega) ?_
  refine aw_ladd dX6_carry_74 ?_
  refine aw_callVi [.int (nI t), .long ((Int32.toInt64 x) + (lN k))] [] (sp_X6_isPlace (d := d - 1) (by omega) (nI t) ((Int32.toInt64 x) + (lN k)) hT (vp_in_nI (by omega) (by decide))) dX6_carry_75 ml_X6_186 im_X6_isPlace (hT.s 0 (by decide)) (hT.n 0 (by decide)) rfl rfl (dl1 (d := d) (by omega)) rfl rfl (Nat.le_of_ble_eq_true rfl) rfl rfl (Nat.zero_le _) (Nat.zero_le _) ?_
  refine aw_if_eq 96 dX6_carry_78 (by decide) (fun c2 => absurd c2 (bz_n0.mpr h1)) (fun c2 => ?_)
  refine aw_aload_n dX6_carry_81 2 rfl ?_
  refine aw_iload_n dX6_carry_82 5 rfl ?_
  refine aw_iload dX6_carry_83 6 rfl ?_
  refine aw_i2l dX6_carry_85 ?_
  refine aw_iload dX6_carry_86 0 rfl ?_
  refine aw_i2lN k dX6_carry_88 rfl (by omega) ?_
  refine aw_ladd dX6_carry_89 ?_
  refine aw_callVi [.int (nI u), .long ((Int32.toInt64 y) + (lN k))] [] (sp_X6_isPlace (d := d - 1) (by omega) (nI u) ((Int32.toInt64 y) + (lN k)) hT (vp_in_nI (by omega) (by decide))) dX6_carry_90 ml_X6_186 im_X6_isPlace (hT.s 0 (by decide)) (hT.n 0 (by decide)) rfl rfl (dl1 (d := d) (by omega)) rfl rfl (Nat.le_of_ble_eq_true rfl) rfl rfl (Nat.zero_le _) (Nat.zero_le _) ?_
  refine aw_if_ne 108 dX6_carry_93 (by decide) (fun c3 => ?_) (fun c3 => absurd c3 (bz_n0.mpr h2))
  refine aw_aload_n dX6_carry_108 2 rfl ?_
  refine aw_aload_n dX6_carry_109 2 rfl ?_
  refine aw_getR (b := 1) dX6_carry_110 fl_X6_7 rfl (hT.s 0 (by decide)) (hT.n 0 (by decide)) (hT.r 0) ?_
  refine aw_iload_n dX6_carry_113 5 rfl ?_
  refine aw_ialdN u dX6_carry_114 (hT.s 1 (by decide)) (hT.n 1 (by decide)) rfl (by omega) (by first | decide | omega) ?_
  refine aw_topE hb ?_
  refine aw_aload_n dX6_carry_115 2 rfl ?_
  refine aw_getR (b := 4) dX6_carry_116 fl_X6_20 rfl (hT.s 0 (by decide)) (hT.n 0 (by decide)) (hT.r 3) ?_
  refine aw_bipush (v := 12) dX6_carry_119 (by decide) ?_
  refine aw_iload_n dX6_carry_121 3 rfl ?_
  refine aw_imulN 12 t dX6_carry_122 rfl rfl ?_
  refine aw_iload_n dX6_carry_123 4 rfl ?_
  refine aw_iadd dX6_carry_124 ?_
  refine aw_iload dX6_carry_125 0 rfl ?_
  refine aw_iadd dX6_carry_127 ?_
  refine aw_topE (ix e1) ?_
  refine aw_ialdN (12 * t + i) dX6_carry_128 (hT.s 4 (by decide)) (hT.n 4 (by decide)) rfl (by omega) (by first | decide | omega) ?_
  refine aw_topE hw ?_
  refine aw_aload_n dX6_carry_129 2 rfl ?_
  refine aw_getR (b := 5) dX6_carry_130 fl_X6_23 rfl (hT.s 0 (by decide)) (hT.n 0 (by decide)) (hT.r 4) ?_
  refine aw_bipush (v := 12) dX6_carry_133 (by decide) ?_
  refine aw_iload_n dX6_carry_135 3 rfl ?_
  refine aw_imulN 12 t dX6_carry_136 rfl rfl ?_
  refine aw_iload_n dX6_carry_137 4 rfl ?_
  refine aw_iadd dX6_carry_138 ?_
  refine aw_iload dX6_carry_139 0 rfl ?_
  refine aw_iadd dX6_carry_141 ?_
  refine aw_topE (ix e1) ?_
  refine aw_laldN (12 * t + i) dX6_carry_142 (hT.s 5 (by decide)) (hT.n 5 (by decide)) rfl (by omega) (by first | decide | omega) ?_
  refine aw_toplE hv ?_
  refine aw_callVi [.int (nI b), .int (nI w), .long v] [] (sp_X6_takes (d := d - 1) (by omega) b w v hT hb14 hw12 h13 h6) dX6_carry_143 ml_X6_213 im_X6_takes (hT.s 0 (by decide)) (hT.n 0 (by decide)) rfl rfl (dl1 (d := d) (by omega)) rfl rfl (Nat.le_of_ble_eq_true rfl) rfl rfl (Nat.zero_le _) (Nat.zero_le _) ?_
  refine aw_if_ne 161 dX6_carry_146 (by decide) (fun c4 => absurd (bz_0.mpr h3) c4) (fun c4 => ?_)
  refine aw_aload_n dX6_carry_149 2 rfl ?_
  refine aw_bipush (v := -9) dX6_carry_150 (by decide) ?_
  refine aw_iload dX6_carry_152 0 rfl ?_
  refine aw_callVi [.int (-9), .int (nI k)] [] (sp_X6_tells (d := d - 1) (by omega) (-9) (nI k) ((sT_tkR M b w v).TR hT)) dX6_carry_154 ml_X6_192 im_X6_tells (((sT_tkR M b w v).TR hT).s 0 (by decide)) (((sT_tkR M b w v).TR hT).n 0 (by decide)) rfl rfl (dl1 (d := d) (by omega)) rfl rfl (Nat.le_of_ble_eq_true rfl) rfl rfl (Nat.zero_le _) (Nat.zero_le _) ?_
  refine aw_pop dX6_carry_157 rfl ?_
  refine aw_iload dX6_carry_158 0 rfl ?_
  refine aw_iret dX6_carry_160 rfl (Nat.zero_le _) (Nat.zero_le _) ?_
  rw [← tkR_f h3]
  exact ⟨rfl, rfl⟩
theorem cr_O {d : Nat} (hd : 4 ≤ d) {M : xM} (t u N k : Nat) (x y e : Int32) (hT : TR M) (ht : t < 12) (hu : u < 12) (hN : N ≤ 12) (hk : k < N) {i j b w : Nat} {v : Int64} (e1 : x + nI k = nI i) (e2 : y + nI k = nI j) (hi : i < 12) (hj : j < 12) (h1 : sX6_isPlace M (nI t) (x.toInt64 + lN k) = true) (h2 : sX6_isPlace M (nI u) (y.toInt64 + lN k) = true) (hb : mI M 1 u = nI b) (hw : mI M 4 (12 * t + i) = nI w) (hv : mL M 5 (12 * t + i) = v) (hb14 : b < 14) (hw12 : w < 12) (h13 : b = 13 → w = 10 → vp_in v.toInt32 24) (h6 : w = 6 → okF 6 v) (h3 : tkB (kd4 M v) b w v = true) {post : Option Value → xM → Prop} (hk2 : AW (fX6_carry d) 60 [(7, .int (nI (k + 1))), (6, .int e), (0, .ref 0), (1, .int (nI t)), (2, .int x), (3, .int (nI u)), (4, .int y), (5, .int (nI N))] [] (celM (tkM M (nI (hwt b w)) (hvl b w v)) (12 * u + j) (nI (hwt b w)) (hvl b w v)) 0 0 post) : AW (fX6_carry d) 60 [(7, .int (nI k)), (6, .int e), (0, .ref 0), (1, .int (nI t)), (2, .int x), (3, .int (nI u)), (4, .int y), (5, .int (nI N))] [] M 0 0 post := by
  refine aw_iload dX6_carry_60 0 rfl ?_
  refine aw_iload dX6_carry_62 7 rfl ?_
  refine aw_icmp_geN k N 205 dX6_carry_64 (by decide) rfl rfl (by omega) (by omega) (fun c1 => absurd c1 (by omega)) (fun c1 => ?_)
  refine aw_aload_n dX6_carry_67 2 rfl ?_
  refine aw_iload_n dX6_carry_68 3 rfl ?_
  refine aw_iload_n dX6_carry_69 4 rfl ?_
  refine aw_i2l dX6_carry_70 ?_
  refine aw_iload dX6_carry_71 0 rfl ?_
  refine aw_i2lN k dX6_carry_73 rfl (by omega) ?_
  refine aw_ladd dX6_carry_74 ?_
  refine aw_callVi [.int (nI t), .long ((Int32.toInt64 x) + (lN k))] [] (sp_X6_isPlace (d := d - 1) (by omega) (nI t) ((Int32.toInt64 x) + (lN k)) hT (vp_in_nI (by omega) (by decide))) dX6_carry_75 ml_X6_186 im_X6_isPlace (hT.s 0 (by decide)) (hT.n 0 (by decide)) rfl rfl (dl1 (d := d) (by omega)) rfl rfl (Nat.le_of_ble_eq_true rfl) rfl rfl (Nat.zero_le _) (Nat.zero_le _) ?_
  refine aw_if_eq 96 dX6_carry_78 (by decide) (fun c2 => absurd c2 (bz_n0.mpr h1)) (fun c2 => ?_)
  refine aw_aload_n dX6_carry_81 2 rfl ?_
  refine aw_iload_n dX6_carry_82 5 rfl ?_
  refine aw_iload dX6_carry_83 6 rfl ?_
  refine aw_i2l dX6_carry_85 ?_
  refine aw_iload dX6_carry_86 0 rfl ?_
  refine aw_i2lN k dX6_carry_88 rfl (by omega) ?_
  refine aw_ladd dX6_carry_89 ?_
  refine aw_callVi [.int (nI u), .long ((Int32.toInt64 y) + (lN k))] [] (sp_X6_isPlace (d := d - 1) (by omega) (nI u) ((Int32.toInt64 y) + (lN k)) hT (vp_in_nI (by omega) (by decide))) dX6_carry_90 ml_X6_186 im_X6_isPlace (hT.s 0 (by decide)) (hT.n 0 (by decide)) rfl rfl (dl1 (d := d) (by omega)) rfl rfl (Nat.le_of_ble_eq_true rfl) rfl rfl (Nat.zero_le _) (Nat.zero_le _) ?_
  refine aw_if_ne 108 dX6_carry_93 (by decide) (fun c3 => ?_) (fun c3 => absurd c3 (bz_n0.mpr h2))
  refine aw_aload_n dX6_carry_108 2 rfl ?_
  refine aw_aload_n dX6_carry_109 2 rfl ?_
  refine aw_getR (b := 1) dX6_carry_110 fl_X6_7 rfl (hT.s 0 (by decide)) (hT.n 0 (by decide)) (hT.r 0) ?_
  refine aw_iload_n dX6_carry_113 5 rfl ?_
  refine aw_ialdN u dX6_carry_114 (hT.s 1 (by decide)) (hT.n 1 (by decide)) rfl (by omega) (by first | decide | omega) ?_
  refine aw_topE hb ?_
  refine aw_aload_n dX6_carry_115 2 rfl ?_
  refine aw_getR (b := 4) dX6_carry_116 fl_X6_20 rfl (hT.s 0 (by decide)) (hT.n 0 (by decide)) (hT.r 3) ?_
  refine aw_bipush (v := 12) dX6_carry_119 (by decide) ?_
  refine aw_iload_n dX6_carry_121 3 rfl ?_
  refine aw_imulN 12 t dX6_carry_122 rfl rfl ?_
  refine aw_iload_n dX6_carry_123 4 rfl ?_
  refine aw_iadd dX6_carry_124 ?_
  refine aw_iload dX6_carry_125 0 rfl ?_
  refine aw_iadd dX6_carry_127 ?_
  refine aw_topE (ix e1) ?_
  refine aw_ialdN (12 * t + i) dX6_carry_128 (hT.s 4 (by decide)) (hT.n 4 (by decide)) rfl (by omega) (by first | decide | omega) ?_
  refine aw_topE hw ?_
  refine aw_aload_n dX6_carry_129 2 rfl ?_
  refine aw_getR (b := 5) dX6_carry_130 fl_X6_23 rfl (hT.s 0 (by decide)) (hT.n 0 (by decide)) (hT.r 4) ?_
  refine aw_bipush (v := 12) dX6_carry_133 (by decide) ?_
  refine aw_iload_n dX6_carry_135 3 rfl ?_
  refine aw_imulN 12 t dX6_carry_136 rfl rfl ?_
  refine aw_iload_n dX6_carry_137 4 rfl ?_
  refine aw_iadd dX6_carry_138 ?_
  refine aw_iload dX6_carry_139 0 rfl ?_
  refine aw_iadd dX6_carry_141 ?_
  refine aw_topE (ix e1) ?_
  refine aw_laldN (12 * t + i) dX6_carry_142 (hT.s 5 (by decide)) (hT.n 5 (by decide)) rfl (by omega) (by first | decide | omega) ?_
  refine aw_toplE hv ?_
  refine aw_callVi [.int (nI b), .int (nI w), .long v] [] (sp_X6_takes (d := d - 1) (by omega) b w v hT hb14 hw12 h13 h6) dX6_carry_143 ml_X6_213 im_X6_takes (hT.s 0 (by decide)) (hT.n 0 (by decide)) rfl rfl (dl1 (d := d) (by omega)) rfl rfl (Nat.le_of_ble_eq_true rfl) rfl rfl (Nat.zero_le _) (Nat.zero_le _) ?_
  refine aw_if_ne 161 dX6_carry_146 (by decide) (fun c4 => ?_) (fun c4 => absurd c4 (bz_n0.mpr h3))
  refine aw_aload_n dX6_carry_161 2 rfl ?_
  refine aw_getR (b := 4) dX6_carry_162 fl_X6_20 rfl (((sT_tkR M b w v).TR hT).s 0 (by decide)) (((sT_tkR M b w v).TR hT).n 0 (by decide)) (((sT_tkR M b w v).TR hT).r 3) ?_
  refine aw_bipush (v := 12) dX6_carry_165 (by decide) ?_
  refine aw_iload_n dX6_carry_167 5 rfl ?_
  refine aw_imulN 12 u dX6_carry_168 rfl rfl ?_
  refine aw_iload dX6_carry_169 6 rfl ?_
  refine aw_iadd dX6_carry_171 ?_
  refine aw_iload dX6_carry_172 0 rfl ?_
  refine aw_iadd dX6_carry_174 ?_
  refine aw_topE (ix e2) ?_
  refine aw_aload_n dX6_carry_175 2 rfl ?_
  refine aw_getI dX6_carry_176 fl_X6_121 (((sT_tkR M b w v).TR hT).s 0 (by decide)) (((sT_tkR M b w v).TR hT).n 0 (by decide)) ?_
  refine aw_topE (show mI (tkR M b w v) 0 27 = nI (hwt b w) by rw [tkR_t h3]; exact (tkM_27 _ _ _).1) ?_
  refine aw_iastN (12 * u + j) dX6_carry_179 (((sT_tkR M b w v).TR hT).s 4 (by decide)) (((sT_tkR M b w v).TR hT).n 4 (by decide)) rfl (by omega) (by first | decide | omega) ?_
  refine aw_aload_n dX6_carry_180 2 rfl ?_
  refine aw_getR (b := 5) dX6_carry_181 fl_X6_23 rfl (((sT_tkR M b w v).TR hT).s 0 (by decide)) (((sT_tkR M b w v).TR hT).n 0 (by decide)) (((sT_tkR M b w v).TR hT).r 4) ?_
  refine aw_bipush (v := 12) dX6_carry_184 (by decide) ?_
  refine aw_iload_n dX6_carry_186 5 rfl ?_
  refine aw_imulN 12 u dX6_carry_187 rfl rfl ?_
  refine aw_iload dX6_carry_188 6 rfl ?_
  refine aw_iadd dX6_carry_190 ?_
  refine aw_iload dX6_carry_191 0 rfl ?_
  refine aw_iadd dX6_carry_193 ?_
  refine aw_topE (ix e2) ?_
  refine aw_aload_n dX6_carry_194 2 rfl ?_
  refine aw_getL dX6_carry_195 fl_X6_124 (((sT_tkR M b w v).TR hT).s 0 (by decide)) (((sT_tkR M b w v).TR hT).n 0 (by decide)) ?_
  refine aw_toplE (show _ = hvl b w v from ?_) ?_
  · rw [mL_stI_c, tkR_t h3]; exact (tkM_27 _ _ _).2
  refine aw_lastN (12 * u + j) dX6_carry_198 (((sT_tkR M b w v).TR hT).s 5 (by decide)) (((sT_tkR M b w v).TR hT).n 5 (by decide)) rfl (by omega) (by first | decide | omega) ?_
  refine aw_iincN k 1 [(7, .int (nI (k + 1))), (6, .int e), (0, .ref 0), (1, .int (nI t)), (2, .int x), (3, .int (nI u)), (4, .int y), (5, .int (nI N))] dX6_carry_199 0 rfl rfl rfl (Nat.le_of_ble_eq_true rfl) rfl ?_
  refine aw_goto 60 dX6_carry_202 (by decide) ?_
  rw [← tkR_t h3] at hk2
  exact hk2
theorem sp_X5_carry_bad {d : Nat} (hd : 6 ≤ d) {M : xM} (x1 x x3 y x5 : Int32) (hT : TC M) (h : x5 < 0 ∨ (¬ x5 < 0 ∧ ¬ x5 ≤ 12)) : Sp (fX5_carry d) [.ref 0, .int x1, .int x, .int x3, .int y, .int x5] M (dt (some (.int (-1))) (tX5_report M (-1) (-1))) := by
  refine Sp.of pn_X5 (Nat.le_of_ble_eq_true rfl) (fun h => Bool.noConfusion h) ?_
  rcases h with h | ⟨h, h2⟩
  · refine aw_iload dX5_carry_0 5 rfl ?_
    refine aw_if_lt 12 dX5_carry_2 (by decide) (fun c1 => ?_) (fun c1 => absurd h c1)
    refine aw_iconst (v := -1) dX5_carry_12 (by decide) ?_
    refine aw_goto 22 dX5_carry_13 (by decide) ?_
    refine aw_istore [(6, .int (-1)), (0, .ref 0), (1, .int x1), (2, .int x), (3, .int x3), (4, .int y), (5, .int x5)] dX5_carry_22 (Nat.le_of_ble_eq_true rfl) rfl ?_
    refine aw_iload dX5_carry_24 0 rfl ?_
    refine aw_if_eq 37 dX5_carry_26 (by decide) (fun c2 => absurd c2 (by decide)) (fun c2 => ?_)
    refine aw_aload_n dX5_carry_29 1 rfl ?_
    refine aw_iload dX5_carry_30 0 rfl ?_
    refine aw_iconst (v := -1) dX5_carry_32 (by decide) ?_
    refine aw_callVi [.int (-1), .int (-1)] [] (sp_X5_report (d := d - 1) (by omega) (-1) (-1) hT) dX5_carry_33 ml_X5_138 im_X5_report (hT.s 0 (by decide)) (hT.n 0 (by decide)) rfl rfl (dl1 (d := d) (by omega)) rfl rfl (Nat.le_of_ble_eq_true rfl) rfl rfl (Nat.zero_le _) (Nat.zero_le _) ?_
    refine aw_iret dX5_carry_36 rfl (Nat.zero_le _) (Nat.zero_le _) ?_
    exact ⟨rfl, rfl⟩
  · refine aw_iload dX5_carry_0 5 rfl ?_
    refine aw_if_lt 12 dX5_carry_2 (by decide) (fun c1 => absurd c1 h) (fun c1 => ?_)
    refine aw_iload dX5_carry_5 5 rfl ?_
    refine aw_bipush (v := 12) dX5_carry_7 (by decide) ?_
    refine aw_icmp_le 16 dX5_carry_9 (by decide) (fun c2 => absurd c2 h2) (fun c2 => ?_)
    refine aw_iconst (v := -1) dX5_carry_12 (by decide) ?_
    refine aw_goto 22 dX5_carry_13 (by decide) ?_
    refine aw_istore [(6, .int (-1)), (0, .ref 0), (1, .int x1), (2, .int x), (3, .int x3), (4, .int y), (5, .int x5)] dX5_carry_22 (Nat.le_of_ble_eq_true rfl) rfl ?_
    refine aw_iload dX5_carry_24 0 rfl ?_
    refine aw_if_eq 37 dX5_carry_26 (by decide) (fun c3 => absurd c3 (by decide)) (fun c3 => ?_)
    refine aw_aload_n dX5_carry_29 1 rfl ?_
    refine aw_iload dX5_carry_30 0 rfl ?_
    refine aw_iconst (v := -1) dX5_carry_32 (by decide) ?_
    refine aw_callVi [.int (-1), .int (-1)] [] (sp_X5_report (d := d - 1) (by omega) (-1) (-1) hT) dX5_carry_33 ml_X5_138 im_X5_report (hT.s 0 (by decide)) (hT.n 0 (by decide)) rfl rfl (dl1 (d := d) (by omega)) rfl rfl (Nat.le_of_ble_eq_true rfl) rfl rfl (Nat.zero_le _) (Nat.zero_le _) ?_
    refine aw_iret dX5_carry_36 rfl (Nat.zero_le _) (Nat.zero_le _) ?_
    exact ⟨rfl, rfl⟩
theorem sp_X5_carry_e {d : Nat} (hd : 6 ≤ d) {M : xM} (x1 x x3 y x5 : Int32) (hT : TC M) (h : ¬ x5 < 0) (h2 : x5 ≤ 12) (he : ¬ sX5_arrayPairError M x1 x3 = 0) : Sp (fX5_carry d) [.ref 0, .int x1, .int x, .int x3, .int y, .int x5] M (dt (some (.int (sX5_arrayPairError M x1 x3))) (tX5_report M (sX5_arrayPairError M x1 x3) (-1))) := by
  refine Sp.of pn_X5 (Nat.le_of_ble_eq_true rfl) (fun h => Bool.noConfusion h) ?_
  refine aw_iload dX5_carry_0 5 rfl ?_
  refine aw_if_lt 12 dX5_carry_2 (by decide) (fun c1 => absurd c1 h) (fun c1 => ?_)
  refine aw_iload dX5_carry_5 5 rfl ?_
  refine aw_bipush (v := 12) dX5_carry_7 (by decide) ?_
  refine aw_icmp_le 16 dX5_carry_9 (by decide) (fun c2 => ?_) (fun c2 => absurd h2 c2)
  refine aw_aload_n dX5_carry_16 0 rfl ?_
  refine aw_iload_n dX5_carry_17 1 rfl ?_
  refine aw_iload_n dX5_carry_18 3 rfl ?_
  refine aw_callVi [.int x1, .int x3] [] (sp_X5_arrayPairError (d := d - 1) (by omega) x1 x3 hT) dX5_carry_19 ml_X5_179 im_X5_arrayPairError (hT.s 0 (by decide)) (hT.n 0 (by decide)) rfl rfl (dl1 (d := d) (by omega)) rfl rfl (Nat.le_of_ble_eq_true rfl) rfl rfl (Nat.zero_le _) (Nat.zero_le _) ?_
  refine aw_istore [(6, .int (sX5_arrayPairError M x1 x3)), (0, .ref 0), (1, .int x1), (2, .int x), (3, .int x3), (4, .int y), (5, .int x5)] dX5_carry_22 (Nat.le_of_ble_eq_true rfl) rfl ?_
  refine aw_iload dX5_carry_24 0 rfl ?_
  refine aw_if_eq 37 dX5_carry_26 (by decide) (fun c3 => absurd c3 he) (fun c3 => ?_)
  refine aw_aload_n dX5_carry_29 1 rfl ?_
  refine aw_iload dX5_carry_30 0 rfl ?_
  refine aw_iconst (v := -1) dX5_carry_32 (by decide) ?_
  refine aw_callVi [.int (sX5_arrayPairError M x1 x3), .int (-1)] [] (sp_X5_report (d := d - 1) (by omega) (sX5_arrayPairError M x1 x3) (-1) hT) dX5_carry_33 ml_X5_138 im_X5_report (hT.s 0 (by decide)) (hT.n 0 (by decide)) rfl rfl (dl1 (d := d) (by omega)) rfl rfl (Nat.le_of_ble_eq_true rfl) rfl rfl (Nat.zero_le _) (Nat.zero_le _) ?_
  refine aw_iret dX5_carry_36 rfl (Nat.zero_le _) (Nat.zero_le _) ?_
  exact ⟨rfl, rfl⟩
theorem sp_X5_carry_go {d : Nat} (hd : 6 ≤ d) {M : xM} (t u N : Nat) (x y : Int32) (hT : TC M) (hN : N ≤ 12) (he : sX5_arrayPairError M (nI t) (nI u) = 0) {post : Option Value → xM → Prop} (hk : AW (fX5_carry d) 40 [(7, .int (nI 0)), (6, .int 0), (0, .ref 0), (1, .int (nI t)), (2, .int x), (3, .int (nI u)), (4, .int y), (5, .int (nI N))] [] M 0 0 post) : Sp (fX5_carry d) [.ref 0, .int (nI t), .int x, .int (nI u), .int y, .int (nI N)] M post := by
  refine Sp.of pn_X5 (Nat.le_of_ble_eq_true rfl) (fun h => Bool.noConfusion h) ?_
  have n0 : ¬ nI N < 0 := (by decide : ∀ N, N ≤ 12 → ¬ nI N < 0) N hN
  refine aw_iload dX5_carry_0 5 rfl ?_
  refine aw_if_lt 12 dX5_carry_2 (by decide) (fun c1 => absurd c1 n0) (fun c1 => ?_)
  refine aw_iload dX5_carry_5 5 rfl ?_
  refine aw_bipush (v := 12) dX5_carry_7 (by decide) ?_
  refine aw_icmp_leN N 12 16 dX5_carry_9 (by decide) rfl rfl (by omega) (by omega) (fun c2 => ?_) (fun c2 => absurd (by omega) c2)
  refine aw_aload_n dX5_carry_16 0 rfl ?_
  refine aw_iload_n dX5_carry_17 1 rfl ?_
  refine aw_iload_n dX5_carry_18 3 rfl ?_
  refine aw_callVi [.int (nI t), .int (nI u)] [] (sp_X5_arrayPairError (d := d - 1) (by omega) (nI t) (nI u) hT) dX5_carry_19 ml_X5_179 im_X5_arrayPairError (hT.s 0 (by decide)) (hT.n 0 (by decide)) rfl rfl (dl1 (d := d) (by omega)) rfl rfl (Nat.le_of_ble_eq_true rfl) rfl rfl (Nat.zero_le _) (Nat.zero_le _) ?_
  refine aw_topE he ?_
  refine aw_istore [(6, .int 0), (0, .ref 0), (1, .int (nI t)), (2, .int x), (3, .int (nI u)), (4, .int y), (5, .int (nI N))] dX5_carry_22 (Nat.le_of_ble_eq_true rfl) rfl ?_
  refine aw_iload dX5_carry_24 0 rfl ?_
  refine aw_if_eq 37 dX5_carry_26 (by decide) (fun c3 => ?_) (fun c3 => absurd rfl c3)
  refine aw_iconst (v := 0) dX5_carry_37 (by decide) ?_
  refine aw_istore [(7, .int 0), (6, .int 0), (0, .ref 0), (1, .int (nI t)), (2, .int x), (3, .int (nI u)), (4, .int y), (5, .int (nI N))] dX5_carry_38 (Nat.le_of_ble_eq_true rfl) rfl ?_
  exact hk
theorem sp_X6_carry_bad {d : Nat} (hd : 4 ≤ d) {M : xM} (x1 x x3 y x5 : Int32) (hT : TR M) (h : sX6_isThing x1.toInt64 = false ∨ (sX6_isThing x1.toInt64 = true ∧ (sX6_isThing x3.toInt64 = false ∨ (sX6_isThing x3.toInt64 = true ∧ sX6_isIn x5.toInt64 0 12 = false)))) : Sp (fX6_carry d) [.ref 0, .int x1, .int x, .int x3, .int y, .int x5] M (dt (some (.int (-1))) (tX6_tells M (-1) (-1))) := by
  refine Sp.of pn_X6 (Nat.le_of_ble_eq_true rfl) (fun h => Bool.noConfusion h) ?_
  rcases h with h | ⟨h, h2 | ⟨h2, h3⟩⟩
  · refine aw_iload_n dX6_carry_0 1 rfl ?_
    refine aw_i2l dX6_carry_1 ?_
    refine aw_callSi [.long (Int32.toInt64 x1)] [] (sp_X6_isThing (d := d - 1) (by omega) (Int32.toInt64 x1) ) dX6_carry_2 ml_X6_159 sm_X6_isThing rfl (dl1 (d := d) (by omega)) rfl rfl (Nat.le_of_ble_eq_true rfl) rfl rfl (Nat.zero_le _) (Nat.zero_le _) ?_
    refine aw_if_eq 29 dX6_carry_5 (by decide) (fun c1 => ?_) (fun c1 => absurd (bz_0.mpr h) c1)
    refine aw_aload_n dX6_carry_29 0 rfl ?_
    refine aw_iconst (v := -1) dX6_carry_30 (by decide) ?_
    refine aw_iconst (v := -1) dX6_carry_31 (by decide) ?_
    refine aw_callVi [.int (-1), .int (-1)] [] (sp_X6_tells (d := d - 1) (by omega) (-1) (-1) hT) dX6_carry_32 ml_X6_192 im_X6_tells (hT.s 0 (by decide)) (hT.n 0 (by decide)) rfl rfl (dl1 (d := d) (by omega)) rfl rfl (Nat.le_of_ble_eq_true rfl) rfl rfl (Nat.zero_le _) (Nat.zero_le _) ?_
    refine aw_iret dX6_carry_35 rfl (Nat.zero_le _) (Nat.zero_le _) ?_
    exact ⟨rfl, rfl⟩
  · refine aw_iload_n dX6_carry_0 1 rfl ?_
    refine aw_i2l dX6_carry_1 ?_
    refine aw_callSi [.long (Int32.toInt64 x1)] [] (sp_X6_isThing (d := d - 1) (by omega) (Int32.toInt64 x1) ) dX6_carry_2 ml_X6_159 sm_X6_isThing rfl (dl1 (d := d) (by omega)) rfl rfl (Nat.le_of_ble_eq_true rfl) rfl rfl (Nat.zero_le _) (Nat.zero_le _) ?_
    refine aw_if_eq 29 dX6_carry_5 (by decide) (fun c1 => absurd c1 (bz_n0.mpr h)) (fun c1 => ?_)
    refine aw_iload_n dX6_carry_8 3 rfl ?_
    refine aw_i2l dX6_carry_9 ?_
    refine aw_callSi [.long (Int32.toInt64 x3)] [] (sp_X6_isThing (d := d - 1) (by omega) (Int32.toInt64 x3) ) dX6_carry_10 ml_X6_159 sm_X6_isThing rfl (dl1 (d := d) (by omega)) rfl rfl (Nat.le_of_ble_eq_true rfl) rfl rfl (Nat.zero_le _) (Nat.zero_le _) ?_
    refine aw_if_eq 29 dX6_carry_13 (by decide) (fun c2 => ?_) (fun c2 => absurd (bz_0.mpr h2) c2)
    refine aw_aload_n dX6_carry_29 0 rfl ?_
    refine aw_iconst (v := -1) dX6_carry_30 (by decide) ?_
    refine aw_iconst (v := -1) dX6_carry_31 (by decide) ?_
    refine aw_callVi [.int (-1), .int (-1)] [] (sp_X6_tells (d := d - 1) (by omega) (-1) (-1) hT) dX6_carry_32 ml_X6_192 im_X6_tells (hT.s 0 (by decide)) (hT.n 0 (by decide)) rfl rfl (dl1 (d := d) (by omega)) rfl rfl (Nat.le_of_ble_eq_true rfl) rfl rfl (Nat.zero_le _) (Nat.zero_le _) ?_
    refine aw_iret dX6_carry_35 rfl (Nat.zero_le _) (Nat.zero_le _) ?_
    exact ⟨rfl, rfl⟩
  · refine aw_iload_n dX6_carry_0 1 rfl ?_
    refine aw_i2l dX6_carry_1 ?_
    refine aw_callSi [.long (Int32.toInt64 x1)] [] (sp_X6_isThing (d := d - 1) (by omega) (Int32.toInt64 x1) ) dX6_carry_2 ml_X6_159 sm_X6_isThing rfl (dl1 (d := d) (by omega)) rfl rfl (Nat.le_of_ble_eq_true rfl) rfl rfl (Nat.zero_le _) (Nat.zero_le _) ?_
    refine aw_if_eq 29 dX6_carry_5 (by decide) (fun c1 => absurd c1 (bz_n0.mpr h)) (fun c1 => ?_)
    refine aw_iload_n dX6_carry_8 3 rfl ?_
    refine aw_i2l dX6_carry_9 ?_
    refine aw_callSi [.long (Int32.toInt64 x3)] [] (sp_X6_isThing (d := d - 1) (by omega) (Int32.toInt64 x3) ) dX6_carry_10 ml_X6_159 sm_X6_isThing rfl (dl1 (d := d) (by omega)) rfl rfl (Nat.le_of_ble_eq_true rfl) rfl rfl (Nat.zero_le _) (Nat.zero_le _) ?_
    refine aw_if_eq 29 dX6_carry_13 (by decide) (fun c2 => absurd c2 (bz_n0.mpr h2)) (fun c2 => ?_)
    refine aw_iload dX6_carry_16 5 rfl ?_
    refine aw_i2l dX6_carry_18 ?_
    refine aw_lconst (v := 0) dX6_carry_19 (by decide) ?_
    refine aw_ldc2 dX6_carry_20 kc_X6_143 ?_
    refine aw_callSi [.long (Int32.toInt64 x5), .long 0, .long 12] [] (sp_X6_isIn (d := d - 1) (by omega) (Int32.toInt64 x5) 0 12 ) dX6_carry_23 ml_X6_73 sm_X6_isIn rfl (dl1 (d := d) (by omega)) rfl rfl (Nat.le_of_ble_eq_true rfl) rfl rfl (Nat.zero_le _) (Nat.zero_le _) ?_
    refine aw_if_ne 36 dX6_carry_26 (by decide) (fun c3 => absurd (bz_0.mpr h3) c3) (fun c3 => ?_)
    refine aw_aload_n dX6_carry_29 0 rfl ?_
    refine aw_iconst (v := -1) dX6_carry_30 (by decide) ?_
    refine aw_iconst (v := -1) dX6_carry_31 (by decide) ?_
    refine aw_callVi [.int (-1), .int (-1)] [] (sp_X6_tells (d := d - 1) (by omega) (-1) (-1) hT) dX6_carry_32 ml_X6_192 im_X6_tells (hT.s 0 (by decide)) (hT.n 0 (by decide)) rfl rfl (dl1 (d := d) (by omega)) rfl rfl (Nat.le_of_ble_eq_true rfl) rfl rfl (Nat.zero_le _) (Nat.zero_le _) ?_
    refine aw_iret dX6_carry_35 rfl (Nat.zero_le _) (Nat.zero_le _) ?_
    exact ⟨rfl, rfl⟩
theorem sp_X6_carry_e {d : Nat} (hd : 4 ≤ d) {M : xM} (x1 x x3 y x5 : Int32) (hT : TR M) (h : sX6_isThing x1.toInt64 = true) (h2 : sX6_isThing x3.toInt64 = true) (h3 : sX6_isIn x5.toInt64 0 12 = true) (he : sX6_refusalOfTwo M x1 x3 < 0) : Sp (fX6_carry d) [.ref 0, .int x1, .int x, .int x3, .int y, .int x5] M (dt (some (.int (sX6_refusalOfTwo M x1 x3))) (tX6_tells M (sX6_refusalOfTwo M x1 x3) (-1))) := by
  refine Sp.of pn_X6 (Nat.le_of_ble_eq_true rfl) (fun h => Bool.noConfusion h) ?_
  refine aw_iload_n dX6_carry_0 1 rfl ?_
  refine aw_i2l dX6_carry_1 ?_
  refine aw_callSi [.long (Int32.toInt64 x1)] [] (sp_X6_isThing (d := d - 1) (by omega) (Int32.toInt64 x1) ) dX6_carry_2 ml_X6_159 sm_X6_isThing rfl (dl1 (d := d) (by omega)) rfl rfl (Nat.le_of_ble_eq_true rfl) rfl rfl (Nat.zero_le _) (Nat.zero_le _) ?_
  refine aw_if_eq 29 dX6_carry_5 (by decide) (fun c1 => absurd c1 (bz_n0.mpr h)) (fun c1 => ?_)
  refine aw_iload_n dX6_carry_8 3 rfl ?_
  refine aw_i2l dX6_carry_9 ?_
  refine aw_callSi [.long (Int32.toInt64 x3)] [] (sp_X6_isThing (d := d - 1) (by omega) (Int32.toInt64 x3) ) dX6_carry_10 ml_X6_159 sm_X6_isThing rfl (dl1 (d := d) (by omega)) rfl rfl (Nat.le_of_ble_eq_true rfl) rfl rfl (Nat.zero_le _) (Nat.zero_le _) ?_
  refine aw_if_eq 29 dX6_carry_13 (by decide) (fun c2 => absurd c2 (bz_n0.mpr h2)) (fun c2 => ?_)
  refine aw_iload dX6_carry_16 5 rfl ?_
  refine aw_i2l dX6_carry_18 ?_
  refine aw_lconst (v := 0) dX6_carry_19 (by decide) ?_
  refine aw_ldc2 dX6_carry_20 kc_X6_143 ?_
  refine aw_callSi [.long (Int32.toInt64 x5), .long 0, .long 12] [] (sp_X6_isIn (d := d - 1) (by omega) (Int32.toInt64 x5) 0 12 ) dX6_carry_23 ml_X6_73 sm_X6_isIn rfl (dl1 (d := d) (by omega)) rfl rfl (Nat.le_of_ble_eq_true rfl) rfl rfl (Nat.zero_le _) (Nat.zero_le _) ?_
  refine aw_if_ne 36 dX6_carry_26 (by decide) (fun c3 => ?_) (fun c3 => absurd c3 (bz_n0.mpr h3))
  refine aw_aload_n dX6_carry_36 0 rfl ?_
  refine aw_iload_n dX6_carry_37 1 rfl ?_
  refine aw_iload_n dX6_carry_38 3 rfl ?_
  refine aw_callVi [.int x1, .int x3] [] (sp_X6_refusalOfTwo (d := d - 1) (by omega) x1 x3 hT (thing_vp c1) (thing_vp c2)) dX6_carry_39 ml_X6_217 im_X6_refusalOfTwo (hT.s 0 (by decide)) (hT.n 0 (by decide)) rfl rfl (dl1 (d := d) (by omega)) rfl rfl (Nat.le_of_ble_eq_true rfl) rfl rfl (Nat.zero_le _) (Nat.zero_le _) ?_
  refine aw_istore [(6, .int (sX6_refusalOfTwo M x1 x3)), (0, .ref 0), (1, .int x1), (2, .int x), (3, .int x3), (4, .int y), (5, .int x5)] dX6_carry_42 (Nat.le_of_ble_eq_true rfl) rfl ?_
  refine aw_iload dX6_carry_44 0 rfl ?_
  refine aw_if_ge 57 dX6_carry_46 (by decide) (fun c4 => absurd he (Int32.not_lt.mpr c4)) (fun c4 => ?_)
  refine aw_aload_n dX6_carry_49 1 rfl ?_
  refine aw_iload dX6_carry_50 0 rfl ?_
  refine aw_iconst (v := -1) dX6_carry_52 (by decide) ?_
  refine aw_callVi [.int (sX6_refusalOfTwo M x1 x3), .int (-1)] [] (sp_X6_tells (d := d - 1) (by omega) (sX6_refusalOfTwo M x1 x3) (-1) hT) dX6_carry_53 ml_X6_192 im_X6_tells (hT.s 0 (by decide)) (hT.n 0 (by decide)) rfl rfl (dl1 (d := d) (by omega)) rfl rfl (Nat.le_of_ble_eq_true rfl) rfl rfl (Nat.zero_le _) (Nat.zero_le _) ?_
  refine aw_iret dX6_carry_56 rfl (Nat.zero_le _) (Nat.zero_le _) ?_
  exact ⟨rfl, rfl⟩
theorem sp_X6_carry_go {d : Nat} (hd : 4 ≤ d) {M : xM} (t u N : Nat) (x y : Int32) (hT : TR M) (ht : t < 12) (hu : u < 12) (hN : N ≤ 12) (h : sX6_isThing (lN t) = true) (h2 : sX6_isThing (lN u) = true) (h3 : sX6_isIn (lN N) 0 12 = true) (he : sX6_refusalOfTwo M (nI t) (nI u) = 0) {post : Option Value → xM → Prop} (hk : AW (fX6_carry d) 60 [(7, .int (nI 0)), (6, .int 0), (0, .ref 0), (1, .int (nI t)), (2, .int x), (3, .int (nI u)), (4, .int y), (5, .int (nI N))] [] M 0 0 post) : Sp (fX6_carry d) [.ref 0, .int (nI t), .int x, .int (nI u), .int y, .int (nI N)] M post := by
  refine Sp.of pn_X6 (Nat.le_of_ble_eq_true rfl) (fun h => Bool.noConfusion h) ?_
  refine aw_iload_n dX6_carry_0 1 rfl ?_
  refine aw_i2lN t dX6_carry_1 rfl (by omega) ?_
  refine aw_callSi [.long (lN t)] [] (sp_X6_isThing (d := d - 1) (by omega) (lN t) ) dX6_carry_2 ml_X6_159 sm_X6_isThing rfl (dl1 (d := d) (by omega)) rfl rfl (Nat.le_of_ble_eq_true rfl) rfl rfl (Nat.zero_le _) (Nat.zero_le _) ?_
  refine aw_if_eq 29 dX6_carry_5 (by decide) (fun c1 => absurd c1 (bz_n0.mpr h)) (fun c1 => ?_)
  refine aw_iload_n dX6_carry_8 3 rfl ?_
  refine aw_i2lN u dX6_carry_9 rfl (by omega) ?_
  refine aw_callSi [.long (lN u)] [] (sp_X6_isThing (d := d - 1) (by omega) (lN u) ) dX6_carry_10 ml_X6_159 sm_X6_isThing rfl (dl1 (d := d) (by omega)) rfl rfl (Nat.le_of_ble_eq_true rfl) rfl rfl (Nat.zero_le _) (Nat.zero_le _) ?_
  refine aw_if_eq 29 dX6_carry_13 (by decide) (fun c2 => absurd c2 (bz_n0.mpr h2)) (fun c2 => ?_)
  refine aw_iload dX6_carry_16 5 rfl ?_
  refine aw_i2lN N dX6_carry_18 rfl (by omega) ?_
  refine aw_lconst (v := 0) dX6_carry_19 (by decide) ?_
  refine aw_ldc2 dX6_carry_20 kc_X6_143 ?_
  refine aw_callSi [.long (lN N), .long 0, .long 12] [] (sp_X6_isIn (d := d - 1) (by omega) (lN N) 0 12 ) dX6_carry_23 ml_X6_73 sm_X6_isIn rfl (dl1 (d := d) (by omega)) rfl rfl (Nat.le_of_ble_eq_true rfl) rfl rfl (Nat.zero_le _) (Nat.zero_le _) ?_
  refine aw_if_ne 36 dX6_carry_26 (by decide) (fun c3 => ?_) (fun c3 => absurd c3 (bz_n0.mpr h3))
  refine aw_aload_n dX6_carry_36 0 rfl ?_
  refine aw_iload_n dX6_carry_37 1 rfl ?_
  refine aw_iload_n dX6_carry_38 3 rfl ?_
  refine aw_callVi [.int (nI t), .int (nI u)] [] (sp_X6_refusalOfTwo (d := d - 1) (by omega) (nI t) (nI u) hT (vp_in_nI (by omega) (by decide)) (vp_in_nI (by omega) (by decide))) dX6_carry_39 ml_X6_217 im_X6_refusalOfTwo (hT.s 0 (by decide)) (hT.n 0 (by decide)) rfl rfl (dl1 (d := d) (by omega)) rfl rfl (Nat.le_of_ble_eq_true rfl) rfl rfl (Nat.zero_le _) (Nat.zero_le _) ?_
  refine aw_topE he ?_
  refine aw_istore [(6, .int 0), (0, .ref 0), (1, .int (nI t)), (2, .int x), (3, .int (nI u)), (4, .int y), (5, .int (nI N))] dX6_carry_42 (Nat.le_of_ble_eq_true rfl) rfl ?_
  refine aw_iload dX6_carry_44 0 rfl ?_
  refine aw_if_ge 57 dX6_carry_46 (by decide) (fun c4 => ?_) (fun c4 => absurd (by decide) c4)
  refine aw_iconst (v := 0) dX6_carry_57 (by decide) ?_
  refine aw_istore [(7, .int 0), (6, .int 0), (0, .ref 0), (1, .int (nI t)), (2, .int x), (3, .int (nI u)), (4, .int y), (5, .int (nI N))] dX6_carry_58 (Nat.le_of_ble_eq_true rfl) rfl ?_
  exact hk
