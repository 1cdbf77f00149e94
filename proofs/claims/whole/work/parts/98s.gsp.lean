-- GET, SET, PUT: contracts by outcome
theorem rt_I (M : xM) (e f w : Int32) {a : Nat} (h : a ≠ 0) (h2 : a ≠ 53) : mI (tX5_report (tX5_tally M e) f w) a = mI M a := by
  unfold tX5_report tX5_tally
  rw [mI_stI_c _ _ _ h, mI_stI_c _ _ _ h]
  split
  · rfl
  · split
    · rfl
    · rw [mI_stI_c _ _ _ h2]
theorem rt_L (M : xM) (e f w : Int32) : mL (tX5_report (tX5_tally M e) f w) = mL M := by
  unfold tX5_report tX5_tally
  split
  · rfl
  · split <;> rfl
theorem ta_I (M : xM) (e : Int32) {a : Nat} (h2 : a ≠ 53) : mI (tX5_tally M e) a = mI M a := by
  unfold tX5_tally
  split
  · rfl
  · split
    · rfl
    · rw [mI_stI_c _ _ _ h2]
theorem te_I (M : xM) (f w : Int32) {a : Nat} (h : a ≠ 0) : mI (tX6_tells M f w) a = mI M a := by
  unfold tX6_tells
  rw [mI_stI_c _ _ _ h, mI_stI_c _ _ _ h]
theorem sp_X5_get_e {d : Nat} (hd : 5 ≤ d) {M : xM} (x1 x2 x3 : Int32) (hT : TC M) (he : ¬ sX5_getError M x1 x2 x3 = 0) : Sp (fX5_get d) [.ref 0, .int x1, .int x2, .int x3] M (dt (some (.long 0)) (tX5_report (tX5_tally M (sX5_getError M x1 x2 x3)) (sX5_getError M x1 x2 x3) (-1))) := by
  refine Sp.of pn_X5 (Nat.le_of_ble_eq_true rfl) (fun h => Bool.noConfusion h) ?_
  refine aw_aload_n dX5_get_0 0 rfl ?_
  refine aw_iload_n dX5_get_1 1 rfl ?_
  refine aw_iload_n dX5_get_2 2 rfl ?_
  refine aw_iload_n dX5_get_3 3 rfl ?_
  refine aw_callVi [.int x1, .int x2, .int x3] [] (sp_X5_getError (d := d - 1) (by omega) x1 x2 x3 hT) dX5_get_4 ml_X5_131 im_X5_getError (hT.s 0 (by decide)) (hT.n 0 (by decide)) rfl rfl (dl1 (d := d) (by omega)) rfl rfl (Nat.le_of_ble_eq_true rfl) rfl rfl (Nat.zero_le _) (Nat.zero_le _) ?_
  refine aw_istore [(4, .int (sX5_getError M x1 x2 x3)), (0, .ref 0), (1, .int x1), (2, .int x2), (3, .int x3)] dX5_get_7 (Nat.le_of_ble_eq_true rfl) rfl ?_
  refine aw_aload_n dX5_get_9 1 rfl ?_
  refine aw_iload dX5_get_10 0 rfl ?_
  refine aw_callVv [.int (sX5_getError M x1 x2 x3)] [] (sp_X5_tally (d := d - 1) (by omega) (sX5_getError M x1 x2 x3) hT) dX5_get_12 ml_X5_135 im_X5_tally (hT.s 0 (by decide)) (hT.n 0 (by decide)) rfl rfl (dl1 (d := d) (by omega)) rfl rfl (Nat.le_of_ble_eq_true rfl) rfl rfl (Nat.zero_le _) (Nat.zero_le _) ?_
  refine aw_aload_n dX5_get_15 1 rfl ?_
  refine aw_iload dX5_get_16 0 rfl ?_
  refine aw_iconst (v := -1) dX5_get_18 (by decide) ?_
  refine aw_callVi [.int (sX5_getError M x1 x2 x3), .int (-1)] [] (sp_X5_report (d := d - 1) (by omega) (sX5_getError M x1 x2 x3) (-1) ((sT_X5_tally M (sX5_getError M x1 x2 x3)).TC hT)) dX5_get_19 ml_X5_138 im_X5_report (((sT_X5_tally M (sX5_getError M x1 x2 x3)).TC hT).s 0 (by decide)) (((sT_X5_tally M (sX5_getError M x1 x2 x3)).TC hT).n 0 (by decide)) rfl rfl (dl1 (d := d) (by omega)) rfl rfl (Nat.le_of_ble_eq_true rfl) rfl rfl (Nat.zero_le _) (Nat.zero_le _) ?_
  refine aw_pop dX5_get_22 rfl ?_
  refine aw_iload dX5_get_23 0 rfl ?_
  refine aw_if_eq 32 dX5_get_25 (by decide) (fun c1 => absurd c1 he) (fun c1 => ?_)
  refine aw_lconst (v := 0) dX5_get_28 (by decide) ?_
  refine aw_goto 56 dX5_get_29 (by decide) ?_
  refine aw_lret dX5_get_56 rfl (Nat.zero_le _) (Nat.zero_le _) ?_
  exact ⟨rfl, rfl⟩
theorem sp_X5_get_ok {d : Nat} (hd : 5 ≤ d) {M : xM} (t k p a : Nat) (hT : TC M) (ht : t < 12) (hp : p < 12) (hk : k < 8) (ha : a < 8) (hka : mI M (54 + 3 * t) 0 = nI a) (hv : a = 6 → okF 6 (mL M (54 + 3 * t + 2) p)) (he : sX5_getError M (nI t) (nI k) (nI p) = 0) : Sp (fX5_get d) [.ref 0, .int (nI t), .int (nI k), .int (nI p)] M (dt (some (.long (wid a k (mL M (54 + 3 * t + 2) p)))) (tX5_report (tX5_tally M 0) 0 (-1))) := by
  refine Sp.of pn_X5 (Nat.le_of_ble_eq_true rfl) (fun h => Bool.noConfusion h) ?_
  refine aw_aload_n dX5_get_0 0 rfl ?_
  refine aw_iload_n dX5_get_1 1 rfl ?_
  refine aw_iload_n dX5_get_2 2 rfl ?_
  refine aw_iload_n dX5_get_3 3 rfl ?_
  refine aw_callVi [.int (nI t), .int (nI k), .int (nI p)] [] (sp_X5_getError (d := d - 1) (by omega) (nI t) (nI k) (nI p) hT) dX5_get_4 ml_X5_131 im_X5_getError (hT.s 0 (by decide)) (hT.n 0 (by decide)) rfl rfl (dl1 (d := d) (by omega)) rfl rfl (Nat.le_of_ble_eq_true rfl) rfl rfl (Nat.zero_le _) (Nat.zero_le _) ?_
  refine aw_topE he ?_
  refine aw_istore [(4, .int 0), (0, .ref 0), (1, .int (nI t)), (2, .int (nI k)), (3, .int (nI p))] dX5_get_7 (Nat.le_of_ble_eq_true rfl) rfl ?_
  refine aw_aload_n dX5_get_9 1 rfl ?_
  refine aw_iload dX5_get_10 0 rfl ?_
  refine aw_callVv [.int 0] [] (sp_X5_tally (d := d - 1) (by omega) 0 hT) dX5_get_12 ml_X5_135 im_X5_tally (hT.s 0 (by decide)) (hT.n 0 (by decide)) rfl rfl (dl1 (d := d) (by omega)) rfl rfl (Nat.le_of_ble_eq_true rfl) rfl rfl (Nat.zero_le _) (Nat.zero_le _) ?_
  refine aw_aload_n dX5_get_15 1 rfl ?_
  refine aw_iload dX5_get_16 0 rfl ?_
  refine aw_iconst (v := -1) dX5_get_18 (by decide) ?_
  refine aw_callVi [.int 0, .int (-1)] [] (sp_X5_report (d := d - 1) (by omega) 0 (-1) ((sT_X5_tally M 0).TC hT)) dX5_get_19 ml_X5_138 im_X5_report (((sT_X5_tally M 0).TC hT).s 0 (by decide)) (((sT_X5_tally M 0).TC hT).n 0 (by decide)) rfl rfl (dl1 (d := d) (by omega)) rfl rfl (Nat.le_of_ble_eq_true rfl) rfl rfl (Nat.zero_le _) (Nat.zero_le _) ?_
  refine aw_pop dX5_get_22 rfl ?_
  refine aw_iload dX5_get_23 0 rfl ?_
  refine aw_if_eq 32 dX5_get_25 (by decide) (fun c1 => ?_) (fun c1 => absurd rfl c1)
  refine aw_aload_n dX5_get_32 1 rfl ?_
  refine aw_getR (b := 1) dX5_get_33 fl_X5_11 rfl (((sT_X5_report (tX5_tally M 0) 0 (-1)).TC ((sT_X5_tally M 0).TC hT)).s 0 (by decide)) (((sT_X5_report (tX5_tally M 0) 0 (-1)).TC ((sT_X5_tally M 0).TC hT)).n 0 (by decide)) (((sT_X5_report (tX5_tally M 0) 0 (-1)).TC ((sT_X5_tally M 0).TC hT)).r 0 0 (by decide) (by decide)) ?_
  refine aw_iload_n dX5_get_36 2 rfl ?_
  refine aw_aaldN t (54 + 3 * t) dX5_get_37 (((sT_X5_report (tX5_tally M 0) 0 (-1)).TC ((sT_X5_tally M 0).TC hT)).s 1 (by decide)) (((sT_X5_report (tX5_tally M 0) 0 (-1)).TC ((sT_X5_tally M 0).TC hT)).n 1 (by decide)) rfl (by omega) (by first | decide | omega) (((sT_X5_report (tX5_tally M 0) 0 (-1)).TC ((sT_X5_tally M 0).TC hT)).slot (by omega)) ?_
  refine aw_getI dX5_get_38 fl_X5_98 (((sT_X5_report (tX5_tally M 0) 0 (-1)).TC ((sT_X5_tally M 0).TC hT)).row (t := t) (by omega)).1 (((sT_X5_report (tX5_tally M 0) 0 (-1)).TC ((sT_X5_tally M 0).TC hT)).row (t := t) (by omega)).n0 ?_
  refine aw_topE ((congrFun (rt_I M 0 0 (-1) (by omega) (by omega)) 0).trans hka) ?_
  refine aw_iload_n dX5_get_41 3 rfl ?_
  refine aw_aload_n dX5_get_42 1 rfl ?_
  refine aw_getR (b := 1) dX5_get_43 fl_X5_11 rfl (((sT_X5_report (tX5_tally M 0) 0 (-1)).TC ((sT_X5_tally M 0).TC hT)).s 0 (by decide)) (((sT_X5_report (tX5_tally M 0) 0 (-1)).TC ((sT_X5_tally M 0).TC hT)).n 0 (by decide)) (((sT_X5_report (tX5_tally M 0) 0 (-1)).TC ((sT_X5_tally M 0).TC hT)).r 0 0 (by decide) (by decide)) ?_
  refine aw_iload_n dX5_get_46 2 rfl ?_
  refine aw_aaldN t (54 + 3 * t) dX5_get_47 (((sT_X5_report (tX5_tally M 0) 0 (-1)).TC ((sT_X5_tally M 0).TC hT)).s 1 (by decide)) (((sT_X5_report (tX5_tally M 0) 0 (-1)).TC ((sT_X5_tally M 0).TC hT)).n 1 (by decide)) rfl (by omega) (by first | decide | omega) (((sT_X5_report (tX5_tally M 0) 0 (-1)).TC ((sT_X5_tally M 0).TC hT)).slot (by omega)) ?_
  refine aw_getR (b := (54 + 3 * t) + 2) dX5_get_48 fl_X5_142 rfl (((sT_X5_report (tX5_tally M 0) 0 (-1)).TC ((sT_X5_tally M 0).TC hT)).row (t := t) (by omega)).1 (((sT_X5_report (tX5_tally M 0) 0 (-1)).TC ((sT_X5_tally M 0).TC hT)).row (t := t) (by omega)).n0 (((sT_X5_report (tX5_tally M 0) 0 (-1)).TC ((sT_X5_tally M 0).TC hT)).row (t := t) (by omega)).2.2.2.2.1 ?_
  refine aw_iload_n dX5_get_51 4 rfl ?_
  refine aw_laldN p dX5_get_52 (((sT_X5_report (tX5_tally M 0) 0 (-1)).TC ((sT_X5_tally M 0).TC hT)).row (t := t) (by omega)).2.2.1 (((sT_X5_report (tX5_tally M 0) 0 (-1)).TC ((sT_X5_tally M 0).TC hT)).row (t := t) (by omega)).n2 rfl (by omega) (by first | decide | omega) ?_
  refine aw_toplE (congrFun (congrFun (rt_L M 0 0 (-1)) _) p) ?_
  refine aw_callSl [.int (nI a), .int (nI k), .long (mL M (54 + 3 * t + 2) p)] [] (sp_X0_widened (d := d - 1) (by omega) a k ha hk _ hv) dX5_get_53 ml_X5_146 sm_X0_widened rfl (dl1 (d := d) (by omega)) rfl rfl (Nat.le_of_ble_eq_true rfl) rfl rfl (Nat.zero_le _) (Nat.zero_le _) ?_
  refine aw_lret dX5_get_56 rfl (Nat.zero_le _) (Nat.zero_le _) ?_
  exact ⟨rfl, rfl⟩
theorem tkR_t {M : xM} {k w : Nat} {v : Int64} (h : tkB (kd4 M v) k w v = true) : tkR M k w v = tkM M (nI (hwt k w)) (hvl k w v) := by
  unfold tkR
  rw [if_pos h, if_pos h]
theorem tkR_f {M : xM} {k w : Nat} {v : Int64} (h : tkB (kd4 M v) k w v = false) : tkR M k w v = tkM M (nI w) v := by
  unfold tkR
  rw [if_neg (by rw [h]; decide), if_neg (by rw [h]; decide)]
theorem cell_x {t p : Nat} (ht : t < 12) (hp : p < 12) : 12 * t + p < 288 := by omega
theorem sp_X6_get_bad {d : Nat} (hd : 3 ≤ d) {M : xM} (x1 x2 x3 : Int32) (hT : TR M) (h : sX6_isThing x1.toInt64 = false ∨ (sX6_isThing x1.toInt64 = true ∧ sX6_isIn x2.toInt64 0 7 = false)) : Sp (fX6_get d) [.ref 0, .int x1, .int x2, .int x3] M (dt (some (.long 0)) (tX6_tells M (-1) (-1))) := by
  refine Sp.of pn_X6 (Nat.le_of_ble_eq_true rfl) (fun h => Bool.noConfusion h) ?_
  rcases h with h | ⟨h, h2⟩
  · refine aw_iload_n dX6_get_0 1 rfl ?_
    refine aw_i2l dX6_get_1 ?_
    refine aw_callSi [.long (Int32.toInt64 x1)] [] (sp_X6_isThing (d := d - 1) (by omega) (Int32.toInt64 x1) ) dX6_get_2 ml_X6_159 sm_X6_isThing rfl (dl1 (d := d) (by omega)) rfl rfl (Nat.le_of_ble_eq_true rfl) rfl rfl (Nat.zero_le _) (Nat.zero_le _) ?_
    refine aw_if_eq 20 dX6_get_5 (by decide) (fun c1 => ?_) (fun c1 => absurd (bz_0.mpr h) c1)
    refine aw_aload_n dX6_get_20 0 rfl ?_
    refine aw_iconst (v := -1) dX6_get_21 (by decide) ?_
    refine aw_iconst (v := -1) dX6_get_22 (by decide) ?_
    refine aw_callVi [.int (-1), .int (-1)] [] (sp_X6_tells (d := d - 1) (by omega) (-1) (-1) hT) dX6_get_23 ml_X6_192 im_X6_tells (hT.s 0 (by decide)) (hT.n 0 (by decide)) rfl rfl (dl1 (d := d) (by omega)) rfl rfl (Nat.le_of_ble_eq_true rfl) rfl rfl (Nat.zero_le _) (Nat.zero_le _) ?_
    refine aw_pop dX6_get_26 rfl ?_
    refine aw_lconst (v := 0) dX6_get_27 (by decide) ?_
    refine aw_lret dX6_get_28 rfl (Nat.zero_le _) (Nat.zero_le _) ?_
    exact ⟨rfl, rfl⟩
  · refine aw_iload_n dX6_get_0 1 rfl ?_
    refine aw_i2l dX6_get_1 ?_
    refine aw_callSi [.long (Int32.toInt64 x1)] [] (sp_X6_isThing (d := d - 1) (by omega) (Int32.toInt64 x1) ) dX6_get_2 ml_X6_159 sm_X6_isThing rfl (dl1 (d := d) (by omega)) rfl rfl (Nat.le_of_ble_eq_true rfl) rfl rfl (Nat.zero_le _) (Nat.zero_le _) ?_
    refine aw_if_eq 20 dX6_get_5 (by decide) (fun c1 => absurd c1 (bz_n0.mpr h)) (fun c1 => ?_)
    refine aw_iload_n dX6_get_8 2 rfl ?_
    refine aw_i2l dX6_get_9 ?_
    refine aw_lconst (v := 0) dX6_get_10 (by decide) ?_
    refine aw_ldc2 dX6_get_11 kc_X6_190 ?_
    refine aw_callSi [.long (Int32.toInt64 x2), .long 0, .long 7] [] (sp_X6_isIn (d := d - 1) (by omega) (Int32.toInt64 x2) 0 7 ) dX6_get_14 ml_X6_73 sm_X6_isIn rfl (dl1 (d := d) (by omega)) rfl rfl (Nat.le_of_ble_eq_true rfl) rfl rfl (Nat.zero_le _) (Nat.zero_le _) ?_
    refine aw_if_ne 29 dX6_get_17 (by decide) (fun c2 => absurd (bz_0.mpr h2) c2) (fun c2 => ?_)
    refine aw_aload_n dX6_get_20 0 rfl ?_
    refine aw_iconst (v := -1) dX6_get_21 (by decide) ?_
    refine aw_iconst (v := -1) dX6_get_22 (by decide) ?_
    refine aw_callVi [.int (-1), .int (-1)] [] (sp_X6_tells (d := d - 1) (by omega) (-1) (-1) hT) dX6_get_23 ml_X6_192 im_X6_tells (hT.s 0 (by decide)) (hT.n 0 (by decide)) rfl rfl (dl1 (d := d) (by omega)) rfl rfl (Nat.le_of_ble_eq_true rfl) rfl rfl (Nat.zero_le _) (Nat.zero_le _) ?_
    refine aw_pop dX6_get_26 rfl ?_
    refine aw_lconst (v := 0) dX6_get_27 (by decide) ?_
    refine aw_lret dX6_get_28 rfl (Nat.zero_le _) (Nat.zero_le _) ?_
    exact ⟨rfl, rfl⟩
theorem sp_X6_get_no {d : Nat} (hd : 3 ≤ d) {M : xM} (x1 x2 x3 : Int32) (hT : TR M) (h : sX6_isThing x1.toInt64 = true) (h2 : sX6_isIn x2.toInt64 0 7 = true) (h3 : sX6_refusalOfGet M x1 x2 x3 < 0) : Sp (fX6_get d) [.ref 0, .int x1, .int x2, .int x3] M (dt (some (.long 0)) (tX6_counts (tX6_tells M (sX6_refusalOfGet M x1 x2 x3) (-1)) (sX6_refusalOfGet M x1 x2 x3))) := by
  refine Sp.of pn_X6 (Nat.le_of_ble_eq_true rfl) (fun h => Bool.noConfusion h) ?_
  refine aw_iload_n dX6_get_0 1 rfl ?_
  refine aw_i2l dX6_get_1 ?_
  refine aw_callSi [.long (Int32.toInt64 x1)] [] (sp_X6_isThing (d := d - 1) (by omega) (Int32.toInt64 x1) ) dX6_get_2 ml_X6_159 sm_X6_isThing rfl (dl1 (d := d) (by omega)) rfl rfl (Nat.le_of_ble_eq_true rfl) rfl rfl (Nat.zero_le _) (Nat.zero_le _) ?_
  refine aw_if_eq 20 dX6_get_5 (by decide) (fun c1 => absurd c1 (bz_n0.mpr h)) (fun c1 => ?_)
  refine aw_iload_n dX6_get_8 2 rfl ?_
  refine aw_i2l dX6_get_9 ?_
  refine aw_lconst (v := 0) dX6_get_10 (by decide) ?_
  refine aw_ldc2 dX6_get_11 kc_X6_190 ?_
  refine aw_callSi [.long (Int32.toInt64 x2), .long 0, .long 7] [] (sp_X6_isIn (d := d - 1) (by omega) (Int32.toInt64 x2) 0 7 ) dX6_get_14 ml_X6_73 sm_X6_isIn rfl (dl1 (d := d) (by omega)) rfl rfl (Nat.le_of_ble_eq_true rfl) rfl rfl (Nat.zero_le _) (Nat.zero_le _) ?_
  refine aw_if_ne 29 dX6_get_17 (by decide) (fun c2 => ?_) (fun c2 => absurd c2 (bz_n0.mpr h2))
  refine aw_aload_n dX6_get_29 0 rfl ?_
  refine aw_iload_n dX6_get_30 1 rfl ?_
  refine aw_iload_n dX6_get_31 2 rfl ?_
  refine aw_iload_n dX6_get_32 3 rfl ?_
  refine aw_callVi [.int x1, .int x2, .int x3] [] (sp_X6_refusalOfGet (d := d - 1) (by omega) x1 x2 x3 hT (thing_vp c1)) dX6_get_33 ml_X6_196 im_X6_refusalOfGet (hT.s 0 (by decide)) (hT.n 0 (by decide)) rfl rfl (dl1 (d := d) (by omega)) rfl rfl (Nat.le_of_ble_eq_true rfl) rfl rfl (Nat.zero_le _) (Nat.zero_le _) ?_
  refine aw_istore [(4, .int (sX6_refusalOfGet M x1 x2 x3)), (0, .ref 0), (1, .int x1), (2, .int x2), (3, .int x3)] dX6_get_36 (Nat.le_of_ble_eq_true rfl) rfl ?_
  refine aw_aload_n dX6_get_38 1 rfl ?_
  refine aw_iload dX6_get_39 0 rfl ?_
  refine aw_iconst (v := -1) dX6_get_41 (by decide) ?_
  refine aw_callVi [.int (sX6_refusalOfGet M x1 x2 x3), .int (-1)] [] (sp_X6_tells (d := d - 1) (by omega) (sX6_refusalOfGet M x1 x2 x3) (-1) hT) dX6_get_42 ml_X6_192 im_X6_tells (hT.s 0 (by decide)) (hT.n 0 (by decide)) rfl rfl (dl1 (d := d) (by omega)) rfl rfl (Nat.le_of_ble_eq_true rfl) rfl rfl (Nat.zero_le _) (Nat.zero_le _) ?_
  refine aw_pop dX6_get_45 rfl ?_
  refine aw_iload dX6_get_46 0 rfl ?_
  refine aw_if_ge 60 dX6_get_48 (by decide) (fun c3 => absurd h3 (Int32.not_lt.mpr c3)) (fun c3 => ?_)
  refine aw_aload_n dX6_get_51 1 rfl ?_
  refine aw_iload dX6_get_52 0 rfl ?_
  refine aw_callVi [.int (sX6_refusalOfGet M x1 x2 x3)] [] (sp_X6_counts (d := d - 1) (by omega) (sX6_refusalOfGet M x1 x2 x3) ((sT_X6_tells M (sX6_refusalOfGet M x1 x2 x3) (-1)).TR hT)) dX6_get_54 ml_X6_200 im_X6_counts (((sT_X6_tells M (sX6_refusalOfGet M x1 x2 x3) (-1)).TR hT).s 0 (by decide)) (((sT_X6_tells M (sX6_refusalOfGet M x1 x2 x3) (-1)).TR hT).n 0 (by decide)) rfl rfl (dl1 (d := d) (by omega)) rfl rfl (Nat.le_of_ble_eq_true rfl) rfl rfl (Nat.zero_le _) (Nat.zero_le _) ?_
  refine aw_pop dX6_get_57 rfl ?_
  refine aw_lconst (v := 0) dX6_get_58 (by decide) ?_
  refine aw_lret dX6_get_59 rfl (Nat.zero_le _) (Nat.zero_le _) ?_
  exact ⟨rfl, rfl⟩
theorem sp_X6_get_ok {d : Nat} (hd : 3 ≤ d) {M : xM} (t k p a : Nat) (hT : TR M) (ht : t < 12) (hp : p < 12) (hk : k < 8) (ha : a < 8) (hka : mI M 1 t = nI a) (hv : a = 6 → okF 6 (mL M 5 (12 * t + p))) (h : sX6_isThing (lN t) = true) (h2 : sX6_isIn (lN k) 0 7 = true) (he : sX6_refusalOfGet M (nI t) (nI k) (nI p) = 0) : Sp (fX6_get d) [.ref 0, .int (nI t), .int (nI k), .int (nI p)] M (dt (some (.long (wid a k (mL M 5 (12 * t + p))))) (tX6_tells M 0 (-1))) := by
  refine Sp.of pn_X6 (Nat.le_of_ble_eq_true rfl) (fun h => Bool.noConfusion h) ?_
  refine aw_iload_n dX6_get_0 1 rfl ?_
  refine aw_i2lN t dX6_get_1 rfl (by omega) ?_
  refine aw_callSi [.long (lN t)] [] (sp_X6_isThing (d := d - 1) (by omega) (lN t)) dX6_get_2 ml_X6_159 sm_X6_isThing rfl (dl1 (d := d) (by omega)) rfl rfl (Nat.le_of_ble_eq_true rfl) rfl rfl (Nat.zero_le _) (Nat.zero_le _) ?_
  refine aw_if_eq 20 dX6_get_5 (by decide) (fun c1 => absurd c1 (bz_n0.mpr h)) (fun c1 => ?_)
  refine aw_iload_n dX6_get_8 2 rfl ?_
  refine aw_i2lN k dX6_get_9 rfl (by omega) ?_
  refine aw_lconst (v := 0) dX6_get_10 (by decide) ?_
  refine aw_ldc2 dX6_get_11 kc_X6_190 ?_
  refine aw_callSi [.long (lN k), .long 0, .long 7] [] (sp_X6_isIn (d := d - 1) (by omega) (lN k) 0 7 ) dX6_get_14 ml_X6_73 sm_X6_isIn rfl (dl1 (d := d) (by omega)) rfl rfl (Nat.le_of_ble_eq_true rfl) rfl rfl (Nat.zero_le _) (Nat.zero_le _) ?_
  refine aw_if_ne 29 dX6_get_17 (by decide) (fun c2 => ?_) (fun c2 => absurd c2 (bz_n0.mpr h2))
  refine aw_aload_n dX6_get_29 0 rfl ?_
  refine aw_iload_n dX6_get_30 1 rfl ?_
  refine aw_iload_n dX6_get_31 2 rfl ?_
  refine aw_iload_n dX6_get_32 3 rfl ?_
  refine aw_callVi [.int (nI t), .int (nI k), .int (nI p)] [] (sp_X6_refusalOfGet (d := d - 1) (by omega) (nI t) (nI k) (nI p) hT (vp_in_nI (by omega) (by decide))) dX6_get_33 ml_X6_196 im_X6_refusalOfGet (hT.s 0 (by decide)) (hT.n 0 (by decide)) rfl rfl (dl1 (d := d) (by omega)) rfl rfl (Nat.le_of_ble_eq_true rfl) rfl rfl (Nat.zero_le _) (Nat.zero_le _) ?_
  refine aw_topE he ?_
  refine aw_istore [(4, .int 0), (0, .ref 0), (1, .int (nI t)), (2, .int (nI k)), (3, .int (nI p))] dX6_get_36 (Nat.le_of_ble_eq_true rfl) rfl ?_
  refine aw_aload_n dX6_get_38 1 rfl ?_
  refine aw_iload dX6_get_39 0 rfl ?_
  refine aw_iconst (v := -1) dX6_get_41 (by decide) ?_
  refine aw_callVi [.int 0, .int (-1)] [] (sp_X6_tells (d := d - 1) (by omega) 0 (-1) hT) dX6_get_42 ml_X6_192 im_X6_tells (hT.s 0 (by decide)) (hT.n 0 (by decide)) rfl rfl (dl1 (d := d) (by omega)) rfl rfl (Nat.le_of_ble_eq_true rfl) rfl rfl (Nat.zero_le _) (Nat.zero_le _) ?_
  refine aw_pop dX6_get_45 rfl ?_
  refine aw_iload dX6_get_46 0 rfl ?_
  refine aw_if_ge 60 dX6_get_48 (by decide) (fun c3 => ?_) (fun c3 => absurd (by decide) c3)
  refine aw_aload_n dX6_get_60 1 rfl ?_
  refine aw_getR (b := 1) dX6_get_61 fl_X6_7 rfl (((sT_X6_tells M 0 (-1)).TR hT).s 0 (by decide)) (((sT_X6_tells M 0 (-1)).TR hT).n 0 (by decide)) (((sT_X6_tells M 0 (-1)).TR hT).r 0) ?_
  refine aw_iload_n dX6_get_64 2 rfl ?_
  refine aw_ialdN t dX6_get_65 (((sT_X6_tells M 0 (-1)).TR hT).s 1 (by decide)) (((sT_X6_tells M 0 (-1)).TR hT).n 1 (by decide)) rfl (by omega) (by first | decide | omega) ?_
  refine aw_topE ((congrFun (te_I M 0 (-1) (by decide)) t).trans hka) ?_
  refine aw_aload_n dX6_get_66 1 rfl ?_
  refine aw_getR (b := 5) dX6_get_67 fl_X6_23 rfl (((sT_X6_tells M 0 (-1)).TR hT).s 0 (by decide)) (((sT_X6_tells M 0 (-1)).TR hT).n 0 (by decide)) (((sT_X6_tells M 0 (-1)).TR hT).r 4) ?_
  refine aw_bipush (v := 12) dX6_get_70 (by decide) ?_
  refine aw_iload_n dX6_get_72 2 rfl ?_
  refine aw_imulN 12 t dX6_get_73 rfl rfl ?_
  refine aw_iload_n dX6_get_74 4 rfl ?_
  refine aw_iaddN (12 * t) p dX6_get_75 rfl rfl ?_
  refine aw_laldN ((12 * t) + p) dX6_get_76 (((sT_X6_tells M 0 (-1)).TR hT).s 5 (by decide)) (((sT_X6_tells M 0 (-1)).TR hT).n 5 (by decide)) rfl (by omega) (by first | decide | omega) ?_
  refine aw_toplE rfl ?_
  refine aw_iload_n dX6_get_77 3 rfl ?_
  refine aw_callSl [.int (nI a), .long (mL M 5 (12 * t + p)), .int (nI k)] [] (sp_X6_turned (d := d - 1) (by omega) a k ha hk _ hv) dX6_get_78 ml_X6_132 sm_X6_turned rfl (dl1 (d := d) (by omega)) rfl rfl (Nat.le_of_ble_eq_true rfl) rfl rfl (Nat.zero_le _) (Nat.zero_le _) ?_
  refine aw_lret dX6_get_81 rfl (Nat.zero_le _) (Nat.zero_le _) ?_
  exact ⟨rfl, rfl⟩
theorem sp_X5_set_e {d : Nat} (hd : 6 ≤ d) {M : xM} (x1 x2 x3 : Int32) (v : Int64) (hT : TC M) (he : ¬ sX5_setError M x1 x2 x3 v = 0) : Sp (fX5_set d) [.ref 0, .int x1, .int x2, .int x3, .long v] M (dt (some (.int (sX5_setError M x1 x2 x3 v))) (tX5_tally M (sX5_setError M x1 x2 x3 v))) := by
  refine Sp.of pn_X5 (Nat.le_of_ble_eq_true rfl) (fun h => Bool.noConfusion h) ?_
  refine aw_aload_n dX5_set_0 0 rfl ?_
  refine aw_iload_n dX5_set_1 1 rfl ?_
  refine aw_iload_n dX5_set_2 2 rfl ?_
  refine aw_iload_n dX5_set_3 3 rfl ?_
  refine aw_lload dX5_set_4 4 rfl ?_
  refine aw_callVi [.int x1, .int x2, .int x3, .long v] [] (sp_X5_setError (d := d - 1) (by omega) x1 x2 x3 v hT) dX5_set_6 ml_X5_152 im_X5_setError (hT.s 0 (by decide)) (hT.n 0 (by decide)) rfl rfl (dl1 (d := d) (by omega)) rfl rfl (Nat.le_of_ble_eq_true rfl) rfl rfl (Nat.zero_le _) (Nat.zero_le _) ?_
  refine aw_istore [(6, .int (sX5_setError M x1 x2 x3 v)), (0, .ref 0), (1, .int x1), (2, .int x2), (3, .int x3), (4, .long v)] dX5_set_9 (Nat.le_of_ble_eq_true rfl) rfl ?_
  refine aw_aload_n dX5_set_11 1 rfl ?_
  refine aw_iload dX5_set_12 0 rfl ?_
  refine aw_callVv [.int (sX5_setError M x1 x2 x3 v)] [] (sp_X5_tally (d := d - 1) (by omega) (sX5_setError M x1 x2 x3 v) hT) dX5_set_14 ml_X5_135 im_X5_tally (hT.s 0 (by decide)) (hT.n 0 (by decide)) rfl rfl (dl1 (d := d) (by omega)) rfl rfl (Nat.le_of_ble_eq_true rfl) rfl rfl (Nat.zero_le _) (Nat.zero_le _) ?_
  refine aw_iload dX5_set_17 0 rfl ?_
  refine aw_if_ne 39 dX5_set_19 (by decide) (fun c1 => ?_) (fun c1 => absurd c1 he)
  refine aw_iload dX5_set_39 0 rfl ?_
  refine aw_iret dX5_set_41 rfl (Nat.zero_le _) (Nat.zero_le _) ?_
  exact ⟨rfl, rfl⟩
theorem sp_X5_set_ok {d : Nat} (hd : 6 ≤ d) {M : xM} (t k p a : Nat) (v : Int64) (hT : TC M) (ht : t < 12) (hp : p < 12) (hk : k < 8) (ha : a < 14) (hka : mI M (54 + 3 * t) 0 = nI a) (hv : k = 6 → okF 6 (psd k v)) (he : sX5_setError M (nI t) (nI k) (nI p) v = 0) : Sp (fX5_set d) [.ref 0, .int (nI t), .int (nI k), .int (nI p), .long v] M (dt (some (.int 0)) (filM M (54 + 3 * t) p (nI (hwt a k)) (hvl a k (psd k v)))) := by
  refine Sp.of pn_X5 (Nat.le_of_ble_eq_true rfl) (fun h => Bool.noConfusion h) ?_
  refine aw_aload_n dX5_set_0 0 rfl ?_
  refine aw_iload_n dX5_set_1 1 rfl ?_
  refine aw_iload_n dX5_set_2 2 rfl ?_
  refine aw_iload_n dX5_set_3 3 rfl ?_
  refine aw_lload dX5_set_4 4 rfl ?_
  refine aw_callVi [.int (nI t), .int (nI k), .int (nI p), .long v] [] (sp_X5_setError (d := d - 1) (by omega) (nI t) (nI k) (nI p) v hT) dX5_set_6 ml_X5_152 im_X5_setError (hT.s 0 (by decide)) (hT.n 0 (by decide)) rfl rfl (dl1 (d := d) (by omega)) rfl rfl (Nat.le_of_ble_eq_true rfl) rfl rfl (Nat.zero_le _) (Nat.zero_le _) ?_
  refine aw_topE he ?_
  refine aw_istore [(6, .int 0), (0, .ref 0), (1, .int (nI t)), (2, .int (nI k)), (3, .int (nI p)), (4, .long v)] dX5_set_9 (Nat.le_of_ble_eq_true rfl) rfl ?_
  refine aw_aload_n dX5_set_11 1 rfl ?_
  refine aw_iload dX5_set_12 0 rfl ?_
  refine aw_callVv [.int 0] [] (show Sp (fX5_tally (d - 1)) [.ref 0, .int 0] M (dt none M) by have q := sp_X5_tally (d := d - 1) (by omega) 0 hT; rw [tally_0 M (by decide)] at q; exact q) dX5_set_14 ml_X5_135 im_X5_tally (hT.s 0 (by decide)) (hT.n 0 (by decide)) rfl rfl (dl1 (d := d) (by omega)) rfl rfl (Nat.le_of_ble_eq_true rfl) rfl rfl (Nat.zero_le _) (Nat.zero_le _) ?_
  refine aw_iload dX5_set_17 0 rfl ?_
  refine aw_if_ne 39 dX5_set_19 (by decide) (fun c1 => absurd rfl c1) (fun c1 => ?_)
  refine aw_aload_n dX5_set_22 1 rfl ?_
  refine aw_getR (b := 1) dX5_set_23 fl_X5_11 rfl (hT.s 0 (by decide)) (hT.n 0 (by decide)) (hT.r 0 0 (by decide) (by decide)) ?_
  refine aw_iload_n dX5_set_26 2 rfl ?_
  refine aw_aaldN t (54 + 3 * t) dX5_set_27 (hT.s 1 (by decide)) (hT.n 1 (by decide)) rfl (by omega) (by first | decide | omega) (hT.slot (by omega)) ?_
  refine aw_iload_n dX5_set_28 4 rfl ?_
  refine aw_iload_n dX5_set_29 3 rfl ?_
  refine aw_iload_n dX5_set_30 3 rfl ?_
  refine aw_lload dX5_set_31 5 rfl ?_
  refine aw_callSl [.int (nI k), .long v] [.int (nI k), .int (nI p), .ref (54 + 3 * t)] (sp_X0_passed (d := d - 1) (by omega) k (by omega) v) dX5_set_33 ml_X5_156 sm_X0_passed rfl (dl1 (d := d) (by omega)) rfl rfl (Nat.le_of_ble_eq_true rfl) rfl rfl (Nat.zero_le _) (Nat.zero_le _) ?_
  refine aw_callVv [.int (nI p), .int (nI k), .long (psd k v)] [] (sp_X2_hold (d := d - 1) (by omega) p a k (psd k v) (hT.row ht) (by omega) ha hka (fun _ => hk) hv) dX5_set_36 ml_X5_160 im_X2_hold (hT.row (t := t) (by omega)).1 (hT.row (t := t) (by omega)).n0 rfl rfl (dl1 (d := d) (by omega)) rfl rfl (Nat.le_of_ble_eq_true rfl) rfl rfl (Nat.zero_le _) (Nat.zero_le _) ?_
  refine aw_iload dX5_set_39 0 rfl ?_
  refine aw_iret dX5_set_41 rfl (Nat.zero_le _) (Nat.zero_le _) ?_
  exact ⟨rfl, rfl⟩
theorem sp_X6_set_bad {d : Nat} (hd : 3 ≤ d) {M : xM} (x1 x2 x3 : Int32) (v : Int64) (hT : TR M) (h : sX6_isThing x1.toInt64 = false ∨ (sX6_isThing x1.toInt64 = true ∧ (sX6_isIn x2.toInt64 0 7 = false ∨ (sX6_isIn x2.toInt64 0 7 = true ∧ sX6_isNumber x2 v = false)))) : Sp (fX6_set d) [.ref 0, .int x1, .int x2, .int x3, .long v] M (dt (some (.int (-1))) M) := by
  refine Sp.of pn_X6 (Nat.le_of_ble_eq_true rfl) (fun h => Bool.noConfusion h) ?_
  rcases h with h | ⟨h, h2 | ⟨h2, h3⟩⟩
  · refine aw_iload_n dX6_set_0 1 rfl ?_
    refine aw_i2l dX6_set_1 ?_
    refine aw_callSi [.long (Int32.toInt64 x1)] [] (sp_X6_isThing (d := d - 1) (by omega) (Int32.toInt64 x1) ) dX6_set_2 ml_X6_159 sm_X6_isThing rfl (dl1 (d := d) (by omega)) rfl rfl (Nat.le_of_ble_eq_true rfl) rfl rfl (Nat.zero_le _) (Nat.zero_le _) ?_
    refine aw_if_eq 29 dX6_set_5 (by decide) (fun c1 => ?_) (fun c1 => absurd (bz_0.mpr h) c1)
    refine aw_iconst (v := -1) dX6_set_29 (by decide) ?_
    refine aw_iret dX6_set_30 rfl (Nat.zero_le _) (Nat.zero_le _) ?_
    exact ⟨rfl, rfl⟩
  · refine aw_iload_n dX6_set_0 1 rfl ?_
    refine aw_i2l dX6_set_1 ?_
    refine aw_callSi [.long (Int32.toInt64 x1)] [] (sp_X6_isThing (d := d - 1) (by omega) (Int32.toInt64 x1) ) dX6_set_2 ml_X6_159 sm_X6_isThing rfl (dl1 (d := d) (by omega)) rfl rfl (Nat.le_of_ble_eq_true rfl) rfl rfl (Nat.zero_le _) (Nat.zero_le _) ?_
    refine aw_if_eq 29 dX6_set_5 (by decide) (fun c1 => absurd c1 (bz_n0.mpr h)) (fun c1 => ?_)
    refine aw_iload_n dX6_set_8 2 rfl ?_
    refine aw_i2l dX6_set_9 ?_
    refine aw_lconst (v := 0) dX6_set_10 (by decide) ?_
    refine aw_ldc2 dX6_set_11 kc_X6_190 ?_
    refine aw_callSi [.long (Int32.toInt64 x2), .long 0, .long 7] [] (sp_X6_isIn (d := d - 1) (by omega) (Int32.toInt64 x2) 0 7 ) dX6_set_14 ml_X6_73 sm_X6_isIn rfl (dl1 (d := d) (by omega)) rfl rfl (Nat.le_of_ble_eq_true rfl) rfl rfl (Nat.zero_le _) (Nat.zero_le _) ?_
    refine aw_if_eq 29 dX6_set_17 (by decide) (fun c2 => ?_) (fun c2 => absurd (bz_0.mpr h2) c2)
    refine aw_iconst (v := -1) dX6_set_29 (by decide) ?_
    refine aw_iret dX6_set_30 rfl (Nat.zero_le _) (Nat.zero_le _) ?_
    exact ⟨rfl, rfl⟩
  · refine aw_iload_n dX6_set_0 1 rfl ?_
    refine aw_i2l dX6_set_1 ?_
    refine aw_callSi [.long (Int32.toInt64 x1)] [] (sp_X6_isThing (d := d - 1) (by omega) (Int32.toInt64 x1) ) dX6_set_2 ml_X6_159 sm_X6_isThing rfl (dl1 (d := d) (by omega)) rfl rfl (Nat.le_of_ble_eq_true rfl) rfl rfl (Nat.zero_le _) (Nat.zero_le _) ?_
    refine aw_if_eq 29 dX6_set_5 (by decide) (fun c1 => absurd c1 (bz_n0.mpr h)) (fun c1 => ?_)
    refine aw_iload_n dX6_set_8 2 rfl ?_
    refine aw_i2l dX6_set_9 ?_
    refine aw_lconst (v := 0) dX6_set_10 (by decide) ?_
    refine aw_ldc2 dX6_set_11 kc_X6_190 ?_
    refine aw_callSi [.long (Int32.toInt64 x2), .long 0, .long 7] [] (sp_X6_isIn (d := d - 1) (by omega) (Int32.toInt64 x2) 0 7 ) dX6_set_14 ml_X6_73 sm_X6_isIn rfl (dl1 (d := d) (by omega)) rfl rfl (Nat.le_of_ble_eq_true rfl) rfl rfl (Nat.zero_le _) (Nat.zero_le _) ?_
    refine aw_if_eq 29 dX6_set_17 (by decide) (fun c2 => absurd c2 (bz_n0.mpr h2)) (fun c2 => ?_)
    refine aw_iload_n dX6_set_20 2 rfl ?_
    refine aw_lload dX6_set_21 4 rfl ?_
    refine aw_callSi [.int x2, .long v] [] (sp_X6_isNumber (d := d - 1) (by omega) x2 v ) dX6_set_23 ml_X6_203 sm_X6_isNumber rfl (dl1 (d := d) (by omega)) rfl rfl (Nat.le_of_ble_eq_true rfl) rfl rfl (Nat.zero_le _) (Nat.zero_le _) ?_
    refine aw_if_ne 31 dX6_set_26 (by decide) (fun c3 => absurd (bz_0.mpr h3) c3) (fun c3 => ?_)
    refine aw_iconst (v := -1) dX6_set_29 (by decide) ?_
    refine aw_iret dX6_set_30 rfl (Nat.zero_le _) (Nat.zero_le _) ?_
    exact ⟨rfl, rfl⟩
theorem cts (x : Int32) : sX6_counts x = x := by
  unfold sX6_counts
  split
  · rfl
  · split <;> rfl
theorem sp_X6_set_r {d : Nat} (hd : 3 ≤ d) {M : xM} (x1 x2 x3 : Int32) (v : Int64) (hT : TR M) (h : sX6_isThing x1.toInt64 = true) (h2 : sX6_isIn x2.toInt64 0 7 = true) (h3 : sX6_isNumber x2 v = true) (h4 : sX6_refusal M x1 < 0) : Sp (fX6_set d) [.ref 0, .int x1, .int x2, .int x3, .long v] M (dt (some (.int (sX6_refusal M x1))) (tX6_counts M (sX6_refusal M x1))) := by
  refine Sp.of pn_X6 (Nat.le_of_ble_eq_true rfl) (fun h => Bool.noConfusion h) ?_
  refine aw_iload_n dX6_set_0 1 rfl ?_
  refine aw_i2l dX6_set_1 ?_
  refine aw_callSi [.long (Int32.toInt64 x1)] [] (sp_X6_isThing (d := d - 1) (by omega) (Int32.toInt64 x1) ) dX6_set_2 ml_X6_159 sm_X6_isThing rfl (dl1 (d := d) (by omega)) rfl rfl (Nat.le_of_ble_eq_true rfl) rfl rfl (Nat.zero_le _) (Nat.zero_le _) ?_
  refine aw_if_eq 29 dX6_set_5 (by decide) (fun c1 => absurd c1 (bz_n0.mpr h)) (fun c1 => ?_)
  refine aw_iload_n dX6_set_8 2 rfl ?_
  refine aw_i2l dX6_set_9 ?_
  refine aw_lconst (v := 0) dX6_set_10 (by decide) ?_
  refine aw_ldc2 dX6_set_11 kc_X6_190 ?_
  refine aw_callSi [.long (Int32.toInt64 x2), .long 0, .long 7] [] (sp_X6_isIn (d := d - 1) (by omega) (Int32.toInt64 x2) 0 7 ) dX6_set_14 ml_X6_73 sm_X6_isIn rfl (dl1 (d := d) (by omega)) rfl rfl (Nat.le_of_ble_eq_true rfl) rfl rfl (Nat.zero_le _) (Nat.zero_le _) ?_
  refine aw_if_eq 29 dX6_set_17 (by decide) (fun c2 => absurd c2 (bz_n0.mpr h2)) (fun c2 => ?_)
  refine aw_iload_n dX6_set_20 2 rfl ?_
  refine aw_lload dX6_set_21 4 rfl ?_
  refine aw_callSi [.int x2, .long v] [] (sp_X6_isNumber (d := d - 1) (by omega) x2 v ) dX6_set_23 ml_X6_203 sm_X6_isNumber rfl (dl1 (d := d) (by omega)) rfl rfl (Nat.le_of_ble_eq_true rfl) rfl rfl (Nat.zero_le _) (Nat.zero_le _) ?_
  refine aw_if_ne 31 dX6_set_26 (by decide) (fun c3 => ?_) (fun c3 => absurd c3 (bz_n0.mpr h3))
  refine aw_aload_n dX6_set_31 0 rfl ?_
  refine aw_iload_n dX6_set_32 1 rfl ?_
  refine aw_callVi [.int x1] [] (sp_X6_refusal (d := d - 1) (by omega) x1 hT (thing_vp c1)) dX6_set_33 ml_X6_162 im_X6_refusal (hT.s 0 (by decide)) (hT.n 0 (by decide)) rfl rfl (dl1 (d := d) (by omega)) rfl rfl (Nat.le_of_ble_eq_true rfl) rfl rfl (Nat.zero_le _) (Nat.zero_le _) ?_
  refine aw_istore [(6, .int (sX6_refusal M x1)), (0, .ref 0), (1, .int x1), (2, .int x2), (3, .int x3), (4, .long v)] dX6_set_36 (Nat.le_of_ble_eq_true rfl) rfl ?_
  refine aw_iload dX6_set_38 0 rfl ?_
  refine aw_if_ne 92 dX6_set_40 (by decide) (fun c4 => ?_) (fun c4 => absurd c4 (fun z => by rw [z] at h4; exact absurd h4 (by decide)))
  refine aw_iload dX6_set_92 0 rfl ?_
  refine aw_if_ge 104 dX6_set_94 (by decide) (fun c5 => absurd h4 (Int32.not_lt.mpr c5)) (fun c5 => ?_)
  refine aw_aload_n dX6_set_97 1 rfl ?_
  refine aw_iload dX6_set_98 0 rfl ?_
  refine aw_callVi [.int (sX6_refusal M x1)] [] (sp_X6_counts (d := d - 1) (by omega) (sX6_refusal M x1) hT) dX6_set_100 ml_X6_200 im_X6_counts (hT.s 0 (by decide)) (hT.n 0 (by decide)) rfl rfl (dl1 (d := d) (by omega)) rfl rfl (Nat.le_of_ble_eq_true rfl) rfl rfl (Nat.zero_le _) (Nat.zero_le _) ?_
  refine aw_iret dX6_set_103 rfl (Nat.zero_le _) (Nat.zero_le _) ?_
  exact ⟨congrArg (fun z => some (Value.int z)) (cts _), rfl⟩
theorem sp_X6_set_o {d : Nat} (hd : 3 ≤ d) {M : xM} (x1 x2 x3 : Int32) (v : Int64) (hT : TR M) (h : sX6_isThing x1.toInt64 = true) (h2 : sX6_isIn x2.toInt64 0 7 = true) (h3 : sX6_isNumber x2 v = true) (h4 : sX6_refusal M x1 = 0) (h5 : sX6_isPlain M x1 = false) : Sp (fX6_set d) [.ref 0, .int x1, .int x2, .int x3, .long v] M (dt (some (.int (-7))) (tX6_counts M (-7))) := by
  refine Sp.of pn_X6 (Nat.le_of_ble_eq_true rfl) (fun h => Bool.noConfusion h) ?_
  refine aw_iload_n dX6_set_0 1 rfl ?_
  refine aw_i2l dX6_set_1 ?_
  refine aw_callSi [.long (Int32.toInt64 x1)] [] (sp_X6_isThing (d := d - 1) (by omega) (Int32.toInt64 x1) ) dX6_set_2 ml_X6_159 sm_X6_isThing rfl (dl1 (d := d) (by omega)) rfl rfl (Nat.le_of_ble_eq_true rfl) rfl rfl (Nat.zero_le _) (Nat.zero_le _) ?_
  refine aw_if_eq 29 dX6_set_5 (by decide) (fun c1 => absurd c1 (bz_n0.mpr h)) (fun c1 => ?_)
  refine aw_iload_n dX6_set_8 2 rfl ?_
  refine aw_i2l dX6_set_9 ?_
  refine aw_lconst (v := 0) dX6_set_10 (by decide) ?_
  refine aw_ldc2 dX6_set_11 kc_X6_190 ?_
  refine aw_callSi [.long (Int32.toInt64 x2), .long 0, .long 7] [] (sp_X6_isIn (d := d - 1) (by omega) (Int32.toInt64 x2) 0 7 ) dX6_set_14 ml_X6_73 sm_X6_isIn rfl (dl1 (d := d) (by omega)) rfl rfl (Nat.le_of_ble_eq_true rfl) rfl rfl (Nat.zero_le _) (Nat.zero_le _) ?_
  refine aw_if_eq 29 dX6_set_17 (by decide) (fun c2 => absurd c2 (bz_n0.mpr h2)) (fun c2 => ?_)
  refine aw_iload_n dX6_set_20 2 rfl ?_
  refine aw_lload dX6_set_21 4 rfl ?_
  refine aw_callSi [.int x2, .long v] [] (sp_X6_isNumber (d := d - 1) (by omega) x2 v ) dX6_set_23 ml_X6_203 sm_X6_isNumber rfl (dl1 (d := d) (by omega)) rfl rfl (Nat.le_of_ble_eq_true rfl) rfl rfl (Nat.zero_le _) (Nat.zero_le _) ?_
  refine aw_if_ne 31 dX6_set_26 (by decide) (fun c3 => ?_) (fun c3 => absurd c3 (bz_n0.mpr h3))
  refine aw_aload_n dX6_set_31 0 rfl ?_
  refine aw_iload_n dX6_set_32 1 rfl ?_
  refine aw_callVi [.int x1] [] (sp_X6_refusal (d := d - 1) (by omega) x1 hT (thing_vp c1)) dX6_set_33 ml_X6_162 im_X6_refusal (hT.s 0 (by decide)) (hT.n 0 (by decide)) rfl rfl (dl1 (d := d) (by omega)) rfl rfl (Nat.le_of_ble_eq_true rfl) rfl rfl (Nat.zero_le _) (Nat.zero_le _) ?_
  refine aw_istore [(6, .int (sX6_refusal M x1)), (0, .ref 0), (1, .int x1), (2, .int x2), (3, .int x3), (4, .long v)] dX6_set_36 (Nat.le_of_ble_eq_true rfl) rfl ?_
  refine aw_iload dX6_set_38 0 rfl ?_
  refine aw_if_ne 92 dX6_set_40 (by decide) (fun c4 => absurd h4 c4) (fun c4 => ?_)
  refine aw_aload_n dX6_set_43 1 rfl ?_
  refine aw_iload_n dX6_set_44 2 rfl ?_
  refine aw_callVi [.int x1] [] (sp_X6_isPlain (d := d - 1) (by omega) x1 hT (thing_vp c1)) dX6_set_45 ml_X6_183 im_X6_isPlain (hT.s 0 (by decide)) (hT.n 0 (by decide)) rfl rfl (dl1 (d := d) (by omega)) rfl rfl (Nat.le_of_ble_eq_true rfl) rfl rfl (Nat.zero_le _) (Nat.zero_le _) ?_
  refine aw_if_ne 56 dX6_set_48 (by decide) (fun c5 => absurd (bz_0.mpr h5) c5) (fun c5 => ?_)
  refine aw_bipush (v := -7) dX6_set_51 (by decide) ?_
  refine aw_goto 90 dX6_set_53 (by decide) ?_
  refine aw_istore [(6, .int (-7)), (0, .ref 0), (1, .int x1), (2, .int x2), (3, .int x3), (4, .long v)] dX6_set_90 (Nat.le_of_ble_eq_true rfl) rfl ?_
  refine aw_iload dX6_set_92 0 rfl ?_
  refine aw_if_ge 104 dX6_set_94 (by decide) (fun c6 => absurd c6 (by decide)) (fun c6 => ?_)
  refine aw_aload_n dX6_set_97 1 rfl ?_
  refine aw_iload dX6_set_98 0 rfl ?_
  refine aw_callVi [.int (-7)] [] (sp_X6_counts (d := d - 1) (by omega) (-7) hT) dX6_set_100 ml_X6_200 im_X6_counts (hT.s 0 (by decide)) (hT.n 0 (by decide)) rfl rfl (dl1 (d := d) (by omega)) rfl rfl (Nat.le_of_ble_eq_true rfl) rfl rfl (Nat.zero_le _) (Nat.zero_le _) ?_
  refine aw_iret dX6_set_103 rfl (Nat.zero_le _) (Nat.zero_le _) ?_
  exact ⟨congrArg (fun z => some (Value.int z)) (cts _), rfl⟩
theorem sp_X6_set_p {d : Nat} (hd : 3 ≤ d) {M : xM} (x1 x2 x3 : Int32) (v : Int64) (hT : TR M) (h : sX6_isThing x1.toInt64 = true) (h2 : sX6_isIn x2.toInt64 0 7 = true) (h3 : sX6_isNumber x2 v = true) (h4 : sX6_refusal M x1 = 0) (h5 : sX6_isPlain M x1 = true) (h6 : sX6_isPlace M x1 x3.toInt64 = false) : Sp (fX6_set d) [.ref 0, .int x1, .int x2, .int x3, .long v] M (dt (some (.int (-8))) (tX6_counts M (-8))) := by
  refine Sp.of pn_X6 (Nat.le_of_ble_eq_true rfl) (fun h => Bool.noConfusion h) ?_
  refine aw_iload_n dX6_set_0 1 rfl ?_
  refine aw_i2l dX6_set_1 ?_
  refine aw_callSi [.long (Int32.toInt64 x1)] [] (sp_X6_isThing (d := d - 1) (by omega) (Int32.toInt64 x1) ) dX6_set_2 ml_X6_159 sm_X6_isThing rfl (dl1 (d := d) (by omega)) rfl rfl (Nat.le_of_ble_eq_true rfl) rfl rfl (Nat.zero_le _) (Nat.zero_le _) ?_
  refine aw_if_eq 29 dX6_set_5 (by decide) (fun c1 => absurd c1 (bz_n0.mpr h)) (fun c1 => ?_)
  refine aw_iload_n dX6_set_8 2 rfl ?_
  refine aw_i2l dX6_set_9 ?_
  refine aw_lconst (v := 0) dX6_set_10 (by decide) ?_
  refine aw_ldc2 dX6_set_11 kc_X6_190 ?_
  refine aw_callSi [.long (Int32.toInt64 x2), .long 0, .long 7] [] (sp_X6_isIn (d := d - 1) (by omega) (Int32.toInt64 x2) 0 7 ) dX6_set_14 ml_X6_73 sm_X6_isIn rfl (dl1 (d := d) (by omega)) rfl rfl (Nat.le_of_ble_eq_true rfl) rfl rfl (Nat.zero_le _) (Nat.zero_le _) ?_
  refine aw_if_eq 29 dX6_set_17 (by decide) (fun c2 => absurd c2 (bz_n0.mpr h2)) (fun c2 => ?_)
  refine aw_iload_n dX6_set_20 2 rfl ?_
  refine aw_lload dX6_set_21 4 rfl ?_
  refine aw_callSi [.int x2, .long v] [] (sp_X6_isNumber (d := d - 1) (by omega) x2 v ) dX6_set_23 ml_X6_203 sm_X6_isNumber rfl (dl1 (d := d) (by omega)) rfl rfl (Nat.le_of_ble_eq_true rfl) rfl rfl (Nat.zero_le _) (Nat.zero_le _) ?_
  refine aw_if_ne 31 dX6_set_26 (by decide) (fun c3 => ?_) (fun c3 => absurd c3 (bz_n0.mpr h3))
  refine aw_aload_n dX6_set_31 0 rfl ?_
  refine aw_iload_n dX6_set_32 1 rfl ?_
  refine aw_callVi [.int x1] [] (sp_X6_refusal (d := d - 1) (by omega) x1 hT (thing_vp c1)) dX6_set_33 ml_X6_162 im_X6_refusal (hT.s 0 (by decide)) (hT.n 0 (by decide)) rfl rfl (dl1 (d := d) (by omega)) rfl rfl (Nat.le_of_ble_eq_true rfl) rfl rfl (Nat.zero_le _) (Nat.zero_le _) ?_
  refine aw_istore [(6, .int (sX6_refusal M x1)), (0, .ref 0), (1, .int x1), (2, .int x2), (3, .int x3), (4, .long v)] dX6_set_36 (Nat.le_of_ble_eq_true rfl) rfl ?_
  refine aw_iload dX6_set_38 0 rfl ?_
  refine aw_if_ne 92 dX6_set_40 (by decide) (fun c4 => absurd h4 c4) (fun c4 => ?_)
  refine aw_aload_n dX6_set_43 1 rfl ?_
  refine aw_iload_n dX6_set_44 2 rfl ?_
  refine aw_callVi [.int x1] [] (sp_X6_isPlain (d := d - 1) (by omega) x1 hT (thing_vp c1)) dX6_set_45 ml_X6_183 im_X6_isPlain (hT.s 0 (by decide)) (hT.n 0 (by decide)) rfl rfl (dl1 (d := d) (by omega)) rfl rfl (Nat.le_of_ble_eq_true rfl) rfl rfl (Nat.zero_le _) (Nat.zero_le _) ?_
  refine aw_if_ne 56 dX6_set_48 (by decide) (fun c5 => ?_) (fun c5 => absurd c5 (bz_n0.mpr h5))
  refine aw_aload_n dX6_set_56 1 rfl ?_
  refine aw_iload_n dX6_set_57 2 rfl ?_
  refine aw_iload_n dX6_set_58 4 rfl ?_
  refine aw_i2l dX6_set_59 ?_
  refine aw_callVi [.int x1, .long (Int32.toInt64 x3)] [] (sp_X6_isPlace (d := d - 1) (by omega) x1 (Int32.toInt64 x3) hT (thing_vp c1)) dX6_set_60 ml_X6_186 im_X6_isPlace (hT.s 0 (by decide)) (hT.n 0 (by decide)) rfl rfl (dl1 (d := d) (by omega)) rfl rfl (Nat.le_of_ble_eq_true rfl) rfl rfl (Nat.zero_le _) (Nat.zero_le _) ?_
  refine aw_if_ne 71 dX6_set_63 (by decide) (fun c6 => absurd (bz_0.mpr h6) c6) (fun c6 => ?_)
  refine aw_bipush (v := -8) dX6_set_66 (by decide) ?_
  refine aw_goto 90 dX6_set_68 (by decide) ?_
  refine aw_istore [(6, .int (-8)), (0, .ref 0), (1, .int x1), (2, .int x2), (3, .int x3), (4, .long v)] dX6_set_90 (Nat.le_of_ble_eq_true rfl) rfl ?_
  refine aw_iload dX6_set_92 0 rfl ?_
  refine aw_if_ge 104 dX6_set_94 (by decide) (fun c7 => absurd c7 (by decide)) (fun c7 => ?_)
  refine aw_aload_n dX6_set_97 1 rfl ?_
  refine aw_iload dX6_set_98 0 rfl ?_
  refine aw_callVi [.int (-8)] [] (sp_X6_counts (d := d - 1) (by omega) (-8) hT) dX6_set_100 ml_X6_200 im_X6_counts (hT.s 0 (by decide)) (hT.n 0 (by decide)) rfl rfl (dl1 (d := d) (by omega)) rfl rfl (Nat.le_of_ble_eq_true rfl) rfl rfl (Nat.zero_le _) (Nat.zero_le _) ?_
  refine aw_iret dX6_set_103 rfl (Nat.zero_le _) (Nat.zero_le _) ?_
  exact ⟨congrArg (fun z => some (Value.int z)) (cts _), rfl⟩
theorem sp_X6_set_k {d : Nat} (hd : 3 ≤ d) {M : xM} (x1 x2 x3 : Int32) (v : Int64) (hT : TR M) (h : sX6_isThing x1.toInt64 = true) (h2 : sX6_isIn x2.toInt64 0 7 = true) (h3 : sX6_isNumber x2 v = true) (h4 : sX6_refusal M x1 = 0) (h5 : sX6_isPlain M x1 = true) (h6 : sX6_isPlace M x1 x3.toInt64 = true) (h7 : sX6_turns x2 (mI M 1 x1.toNatClampNeg) = false) : Sp (fX6_set d) [.ref 0, .int x1, .int x2, .int x3, .long v] M (dt (some (.int (-9))) (tX6_counts M (-9))) := by
  refine Sp.of pn_X6 (Nat.le_of_ble_eq_true rfl) (fun h => Bool.noConfusion h) ?_
  refine aw_iload_n dX6_set_0 1 rfl ?_
  refine aw_i2l dX6_set_1 ?_
  refine aw_callSi [.long (Int32.toInt64 x1)] [] (sp_X6_isThing (d := d - 1) (by omega) (Int32.toInt64 x1) ) dX6_set_2 ml_X6_159 sm_X6_isThing rfl (dl1 (d := d) (by omega)) rfl rfl (Nat.le_of_ble_eq_true rfl) rfl rfl (Nat.zero_le _) (Nat.zero_le _) ?_
  refine aw_if_eq 29 dX6_set_5 (by decide) (fun c1 => absurd c1 (bz_n0.mpr h)) (fun c1 => ?_)
  refine aw_iload_n dX6_set_8 2 rfl ?_
  refine aw_i2l dX6_set_9 ?_
  refine aw_lconst (v := 0) dX6_set_10 (by decide) ?_
  refine aw_ldc2 dX6_set_11 kc_X6_190 ?_
  refine aw_callSi [.long (Int32.toInt64 x2), .long 0, .long 7] [] (sp_X6_isIn (d := d - 1) (by omega) (Int32.toInt64 x2) 0 7 ) dX6_set_14 ml_X6_73 sm_X6_isIn rfl (dl1 (d := d) (by omega)) rfl rfl (Nat.le_of_ble_eq_true rfl) rfl rfl (Nat.zero_le _) (Nat.zero_le _) ?_
  refine aw_if_eq 29 dX6_set_17 (by decide) (fun c2 => absurd c2 (bz_n0.mpr h2)) (fun c2 => ?_)
  refine aw_iload_n dX6_set_20 2 rfl ?_
  refine aw_lload dX6_set_21 4 rfl ?_
  refine aw_callSi [.int x2, .long v] [] (sp_X6_isNumber (d := d - 1) (by omega) x2 v ) dX6_set_23 ml_X6_203 sm_X6_isNumber rfl (dl1 (d := d) (by omega)) rfl rfl (Nat.le_of_ble_eq_true rfl) rfl rfl (Nat.zero_le _) (Nat.zero_le _) ?_
  refine aw_if_ne 31 dX6_set_26 (by decide) (fun c3 => ?_) (fun c3 => absurd c3 (bz_n0.mpr h3))
  refine aw_aload_n dX6_set_31 0 rfl ?_
  refine aw_iload_n dX6_set_32 1 rfl ?_
  refine aw_callVi [.int x1] [] (sp_X6_refusal (d := d - 1) (by omega) x1 hT (thing_vp c1)) dX6_set_33 ml_X6_162 im_X6_refusal (hT.s 0 (by decide)) (hT.n 0 (by decide)) rfl rfl (dl1 (d := d) (by omega)) rfl rfl (Nat.le_of_ble_eq_true rfl) rfl rfl (Nat.zero_le _) (Nat.zero_le _) ?_
  refine aw_istore [(6, .int (sX6_refusal M x1)), (0, .ref 0), (1, .int x1), (2, .int x2), (3, .int x3), (4, .long v)] dX6_set_36 (Nat.le_of_ble_eq_true rfl) rfl ?_
  refine aw_iload dX6_set_38 0 rfl ?_
  refine aw_if_ne 92 dX6_set_40 (by decide) (fun c4 => absurd h4 c4) (fun c4 => ?_)
  refine aw_aload_n dX6_set_43 1 rfl ?_
  refine aw_iload_n dX6_set_44 2 rfl ?_
  refine aw_callVi [.int x1] [] (sp_X6_isPlain (d := d - 1) (by omega) x1 hT (thing_vp c1)) dX6_set_45 ml_X6_183 im_X6_isPlain (hT.s 0 (by decide)) (hT.n 0 (by decide)) rfl rfl (dl1 (d := d) (by omega)) rfl rfl (Nat.le_of_ble_eq_true rfl) rfl rfl (Nat.zero_le _) (Nat.zero_le _) ?_
  refine aw_if_ne 56 dX6_set_48 (by decide) (fun c5 => ?_) (fun c5 => absurd c5 (bz_n0.mpr h5))
  refine aw_aload_n dX6_set_56 1 rfl ?_
  refine aw_iload_n dX6_set_57 2 rfl ?_
  refine aw_iload_n dX6_set_58 4 rfl ?_
  refine aw_i2l dX6_set_59 ?_
  refine aw_callVi [.int x1, .long (Int32.toInt64 x3)] [] (sp_X6_isPlace (d := d - 1) (by omega) x1 (Int32.toInt64 x3) hT (thing_vp c1)) dX6_set_60 ml_X6_186 im_X6_isPlace (hT.s 0 (by decide)) (hT.n 0 (by decide)) rfl rfl (dl1 (d := d) (by omega)) rfl rfl (Nat.le_of_ble_eq_true rfl) rfl rfl (Nat.zero_le _) (Nat.zero_le _) ?_
  refine aw_if_ne 71 dX6_set_63 (by decide) (fun c6 => ?_) (fun c6 => absurd c6 (bz_n0.mpr h6))
  refine aw_iload_n dX6_set_71 3 rfl ?_
  refine aw_aload_n dX6_set_72 1 rfl ?_
  refine aw_getR (b := 1) dX6_set_73 fl_X6_7 rfl (hT.s 0 (by decide)) (hT.n 0 (by decide)) (hT.r 0) ?_
  refine aw_iload_n dX6_set_76 2 rfl ?_
  refine aw_iald dX6_set_77 (hT.s 1 (by decide)) (hT.n 1 (by decide)) (thing_vp c1) ?_
  refine aw_callSi [.int x2, .int (mI M 1 x1.toNatClampNeg)] [] (sp_X6_turns (d := d - 1) (by omega) x2 (mI M 1 x1.toNatClampNeg) ) dX6_set_78 ml_X6_128 sm_X6_turns rfl (dl1 (d := d) (by omega)) rfl rfl (Nat.le_of_ble_eq_true rfl) rfl rfl (Nat.zero_le _) (Nat.zero_le _) ?_
  refine aw_if_eq 88 dX6_set_81 (by decide) (fun c7 => ?_) (fun c7 => absurd (bz_0.mpr h7) c7)
  refine aw_bipush (v := -9) dX6_set_88 (by decide) ?_
  refine aw_istore [(6, .int (-9)), (0, .ref 0), (1, .int x1), (2, .int x2), (3, .int x3), (4, .long v)] dX6_set_90 (Nat.le_of_ble_eq_true rfl) rfl ?_
  refine aw_iload dX6_set_92 0 rfl ?_
  refine aw_if_ge 104 dX6_set_94 (by decide) (fun c8 => absurd c8 (by decide)) (fun c8 => ?_)
  refine aw_aload_n dX6_set_97 1 rfl ?_
  refine aw_iload dX6_set_98 0 rfl ?_
  refine aw_callVi [.int (-9)] [] (sp_X6_counts (d := d - 1) (by omega) (-9) hT) dX6_set_100 ml_X6_200 im_X6_counts (hT.s 0 (by decide)) (hT.n 0 (by decide)) rfl rfl (dl1 (d := d) (by omega)) rfl rfl (Nat.le_of_ble_eq_true rfl) rfl rfl (Nat.zero_le _) (Nat.zero_le _) ?_
  refine aw_iret dX6_set_103 rfl (Nat.zero_le _) (Nat.zero_le _) ?_
  exact ⟨congrArg (fun z => some (Value.int z)) (cts _), rfl⟩
theorem sp_X6_set_ok {d : Nat} (hd : 3 ≤ d) {M : xM} (t k p a : Nat) (v : Int64) (hT : TR M) (ht : t < 12) (hp : p < 12) (hk : k < 8) (ha : a < 8) (hka : mI M 1 t = nI a) (hv : k = 6 → okF 6 (psd k v)) (h : sX6_isThing (lN t) = true) (h2 : sX6_isIn (lN k) 0 7 = true) (h3 : sX6_isNumber (nI k) v = true) (h4 : sX6_refusal M (nI t) = 0) (h5 : sX6_isPlain M (nI t) = true) (h6 : sX6_isPlace M (nI t) (lN p) = true) (h7 : sX6_turns (nI k) (nI a) = true) : Sp (fX6_set d) [.ref 0, .int (nI t), .int (nI k), .int (nI p), .long v] M (dt (some (.int 0)) (stL M 5 (12 * t + p) (wid k a (psd k v)))) := by
  refine Sp.of pn_X6 (Nat.le_of_ble_eq_true rfl) (fun h => Bool.noConfusion h) ?_
  refine aw_iload_n dX6_set_0 1 rfl ?_
  refine aw_i2lN t dX6_set_1 rfl (by omega) ?_
  refine aw_callSi [.long (lN t)] [] (sp_X6_isThing (d := d - 1) (by omega) (lN t) ) dX6_set_2 ml_X6_159 sm_X6_isThing rfl (dl1 (d := d) (by omega)) rfl rfl (Nat.le_of_ble_eq_true rfl) rfl rfl (Nat.zero_le _) (Nat.zero_le _) ?_
  refine aw_if_eq 29 dX6_set_5 (by decide) (fun c1 => absurd c1 (bz_n0.mpr h)) (fun c1 => ?_)
  refine aw_iload_n dX6_set_8 2 rfl ?_
  refine aw_i2lN k dX6_set_9 rfl (by omega) ?_
  refine aw_lconst (v := 0) dX6_set_10 (by decide) ?_
  refine aw_ldc2 dX6_set_11 kc_X6_190 ?_
  refine aw_callSi [.long (lN k), .long 0, .long 7] [] (sp_X6_isIn (d := d - 1) (by omega) (lN k) 0 7 ) dX6_set_14 ml_X6_73 sm_X6_isIn rfl (dl1 (d := d) (by omega)) rfl rfl (Nat.le_of_ble_eq_true rfl) rfl rfl (Nat.zero_le _) (Nat.zero_le _) ?_
  refine aw_if_eq 29 dX6_set_17 (by decide) (fun c2 => absurd c2 (bz_n0.mpr h2)) (fun c2 => ?_)
  refine aw_iload_n dX6_set_20 2 rfl ?_
  refine aw_lload dX6_set_21 4 rfl ?_
  refine aw_callSi [.int (nI k), .long v] [] (sp_X6_isNumber (d := d - 1) (by omega) (nI k) v ) dX6_set_23 ml_X6_203 sm_X6_isNumber rfl (dl1 (d := d) (by omega)) rfl rfl (Nat.le_of_ble_eq_true rfl) rfl rfl (Nat.zero_le _) (Nat.zero_le _) ?_
  refine aw_if_ne 31 dX6_set_26 (by decide) (fun c3 => ?_) (fun c3 => absurd c3 (bz_n0.mpr h3))
  refine aw_aload_n dX6_set_31 0 rfl ?_
  refine aw_iload_n dX6_set_32 1 rfl ?_
  refine aw_callVi [.int (nI t)] [] (sp_X6_refusal (d := d - 1) (by omega) (nI t) hT (vp_in_nI (by omega) (by decide))) dX6_set_33 ml_X6_162 im_X6_refusal (hT.s 0 (by decide)) (hT.n 0 (by decide)) rfl rfl (dl1 (d := d) (by omega)) rfl rfl (Nat.le_of_ble_eq_true rfl) rfl rfl (Nat.zero_le _) (Nat.zero_le _) ?_
  refine aw_istore [(6, .int (sX6_refusal M (nI t))), (0, .ref 0), (1, .int (nI t)), (2, .int (nI k)), (3, .int (nI p)), (4, .long v)] dX6_set_36 (Nat.le_of_ble_eq_true rfl) rfl ?_
  refine aw_iload dX6_set_38 0 rfl ?_
  refine aw_if_ne 92 dX6_set_40 (by decide) (fun c4 => absurd h4 c4) (fun c4 => ?_)
  refine aw_aload_n dX6_set_43 1 rfl ?_
  refine aw_iload_n dX6_set_44 2 rfl ?_
  refine aw_callVi [.int (nI t)] [] (sp_X6_isPlain (d := d - 1) (by omega) (nI t) hT (vp_in_nI (by omega) (by decide))) dX6_set_45 ml_X6_183 im_X6_isPlain (hT.s 0 (by decide)) (hT.n 0 (by decide)) rfl rfl (dl1 (d := d) (by omega)) rfl rfl (Nat.le_of_ble_eq_true rfl) rfl rfl (Nat.zero_le _) (Nat.zero_le _) ?_
  refine aw_if_ne 56 dX6_set_48 (by decide) (fun c5 => ?_) (fun c5 => absurd c5 (bz_n0.mpr h5))
  refine aw_aload_n dX6_set_56 1 rfl ?_
  refine aw_iload_n dX6_set_57 2 rfl ?_
  refine aw_iload_n dX6_set_58 4 rfl ?_
  refine aw_i2lN p dX6_set_59 rfl (by omega) ?_
  refine aw_callVi [.int (nI t), .long (lN p)] [] (sp_X6_isPlace (d := d - 1) (by omega) (nI t) (lN p) hT (vp_in_nI (by omega) (by decide))) dX6_set_60 ml_X6_186 im_X6_isPlace (hT.s 0 (by decide)) (hT.n 0 (by decide)) rfl rfl (dl1 (d := d) (by omega)) rfl rfl (Nat.le_of_ble_eq_true rfl) rfl rfl (Nat.zero_le _) (Nat.zero_le _) ?_
  refine aw_if_ne 71 dX6_set_63 (by decide) (fun c6 => ?_) (fun c6 => absurd c6 (bz_n0.mpr h6))
  refine aw_iload_n dX6_set_71 3 rfl ?_
  refine aw_aload_n dX6_set_72 1 rfl ?_
  refine aw_getR (b := 1) dX6_set_73 fl_X6_7 rfl (hT.s 0 (by decide)) (hT.n 0 (by decide)) (hT.r 0) ?_
  refine aw_iload_n dX6_set_76 2 rfl ?_
  refine aw_ialdN t dX6_set_77 (hT.s 1 (by decide)) (hT.n 1 (by decide)) rfl (by omega) (by first | decide | omega) ?_
  refine aw_topE hka ?_
  refine aw_callSi [.int (nI k), .int (nI a)] [] (sp_X6_turns (d := d - 1) (by omega) (nI k) (nI a) ) dX6_set_78 ml_X6_128 sm_X6_turns rfl (dl1 (d := d) (by omega)) rfl rfl (Nat.le_of_ble_eq_true rfl) rfl rfl (Nat.zero_le _) (Nat.zero_le _) ?_
  refine aw_if_eq 88 dX6_set_81 (by decide) (fun c7 => absurd c7 (bz_n0.mpr h7)) (fun c7 => ?_)
  refine aw_iconst (v := 0) dX6_set_84 (by decide) ?_
  refine aw_goto 90 dX6_set_85 (by decide) ?_
  refine aw_istore [(6, .int 0), (0, .ref 0), (1, .int (nI t)), (2, .int (nI k)), (3, .int (nI p)), (4, .long v)] dX6_set_90 (Nat.le_of_ble_eq_true rfl) rfl ?_
  refine aw_iload dX6_set_92 0 rfl ?_
  refine aw_if_ge 104 dX6_set_94 (by decide) (fun c8 => ?_) (fun c8 => absurd (by decide) c8)
  refine aw_aload_n dX6_set_104 1 rfl ?_
  refine aw_getR (b := 5) dX6_set_105 fl_X6_23 rfl (hT.s 0 (by decide)) (hT.n 0 (by decide)) (hT.r 4) ?_
  refine aw_bipush (v := 12) dX6_set_108 (by decide) ?_
  refine aw_iload_n dX6_set_110 2 rfl ?_
  refine aw_imulN 12 t dX6_set_111 rfl rfl ?_
  refine aw_iload_n dX6_set_112 4 rfl ?_
  refine aw_iaddN (12 * t) p dX6_set_113 rfl rfl ?_
  refine aw_iload_n dX6_set_114 3 rfl ?_
  refine aw_iload_n dX6_set_115 3 rfl ?_
  refine aw_lload dX6_set_116 5 rfl ?_
  refine aw_callSl [.int (nI k), .long v] [.int (nI k), .int (nI ((12 * t) + p)), .ref 5] (sp_X6_given (d := d - 1) (by omega) k (by omega) v) dX6_set_118 ml_X6_206 sm_X6_given rfl (dl1 (d := d) (by omega)) rfl rfl (Nat.le_of_ble_eq_true rfl) rfl rfl (Nat.zero_le _) (Nat.zero_le _) ?_
  refine aw_aload_n dX6_set_121 1 rfl ?_
  refine aw_getR (b := 1) dX6_set_122 fl_X6_7 rfl (hT.s 0 (by decide)) (hT.n 0 (by decide)) (hT.r 0) ?_
  refine aw_iload_n dX6_set_125 2 rfl ?_
  refine aw_ialdN t dX6_set_126 (hT.s 1 (by decide)) (hT.n 1 (by decide)) rfl (by omega) (by first | decide | omega) ?_
  refine aw_topE hka ?_
  refine aw_callSl [.int (nI k), .long (psd k v), .int (nI a)] [.int (nI ((12 * t) + p)), .ref 5] (sp_X6_turned (d := d - 1) (by omega) k a hk ha _ hv) dX6_set_127 ml_X6_132 sm_X6_turned rfl (dl1 (d := d) (by omega)) rfl rfl (Nat.le_of_ble_eq_true rfl) rfl rfl (Nat.zero_le _) (Nat.zero_le _) ?_
  refine aw_lastN ((12 * t) + p) dX6_set_130 (hT.s 5 (by decide)) (hT.n 5 (by decide)) rfl (by omega) (by first | decide | omega) ?_
  refine aw_iconst (v := 0) dX6_set_131 (by decide) ?_
  refine aw_iret dX6_set_132 rfl (Nat.zero_le _) (Nat.zero_le _) ?_
  exact ⟨rfl, rfl⟩
theorem sp_X5_put_e {d : Nat} (hd : 6 ≤ d) {M : xM} (x1 x2 x3 : Int32) (v : Int64) (hT : TC M) (he : ¬ sX5_putError M x1 x2 x3 v = 0) : Sp (fX5_put d) [.ref 0, .int x1, .int x2, .int x3, .long v] M (dt (some (.int (sX5_putError M x1 x2 x3 v))) (tX5_tally M (sX5_putError M x1 x2 x3 v))) := by
  refine Sp.of pn_X5 (Nat.le_of_ble_eq_true rfl) (fun h => Bool.noConfusion h) ?_
  refine aw_aload_n dX5_put_0 0 rfl ?_
  refine aw_iload_n dX5_put_1 1 rfl ?_
  refine aw_iload_n dX5_put_2 2 rfl ?_
  refine aw_iload_n dX5_put_3 3 rfl ?_
  refine aw_lload dX5_put_4 4 rfl ?_
  refine aw_callVi [.int x1, .int x2, .int x3, .long v] [] (sp_X5_putError (d := d - 1) (by omega) x1 x2 x3 v hT) dX5_put_6 ml_X5_173 im_X5_putError (hT.s 0 (by decide)) (hT.n 0 (by decide)) rfl rfl (dl1 (d := d) (by omega)) rfl rfl (Nat.le_of_ble_eq_true rfl) rfl rfl (Nat.zero_le _) (Nat.zero_le _) ?_
  refine aw_istore [(6, .int (sX5_putError M x1 x2 x3 v)), (0, .ref 0), (1, .int x1), (2, .int x2), (3, .int x3), (4, .long v)] dX5_put_9 (Nat.le_of_ble_eq_true rfl) rfl ?_
  refine aw_aload_n dX5_put_11 1 rfl ?_
  refine aw_iload dX5_put_12 0 rfl ?_
  refine aw_callVv [.int (sX5_putError M x1 x2 x3 v)] [] (sp_X5_tally (d := d - 1) (by omega) (sX5_putError M x1 x2 x3 v) hT) dX5_put_14 ml_X5_135 im_X5_tally (hT.s 0 (by decide)) (hT.n 0 (by decide)) rfl rfl (dl1 (d := d) (by omega)) rfl rfl (Nat.le_of_ble_eq_true rfl) rfl rfl (Nat.zero_le _) (Nat.zero_le _) ?_
  refine aw_iload dX5_put_17 0 rfl ?_
  refine aw_if_ne 39 dX5_put_19 (by decide) (fun c1 => ?_) (fun c1 => absurd c1 he)
  refine aw_iload dX5_put_39 0 rfl ?_
  refine aw_iret dX5_put_41 rfl (Nat.zero_le _) (Nat.zero_le _) ?_
  exact ⟨rfl, rfl⟩
theorem sp_X5_put_ok {d : Nat} (hd : 6 ≤ d) {M : xM} (t p w a : Nat) (v : Int64) (hT : TC M) (ht : t < 12) (hp : p < 12) (hw : w < 12) (ha : a < 14) (hka : mI M (54 + 3 * t) 0 = nI a) (hw8 : a < 8 → w < 8) (hv : w = 6 → okF 6 (psd w v)) (he : sX5_putError M (nI t) (nI p) (nI w) v = 0) : Sp (fX5_put d) [.ref 0, .int (nI t), .int (nI p), .int (nI w), .long v] M (dt (some (.int 0)) (filM M (54 + 3 * t) p (nI (hwt a w)) (hvl a w (psd w v)))) := by
  refine Sp.of pn_X5 (Nat.le_of_ble_eq_true rfl) (fun h => Bool.noConfusion h) ?_
  refine aw_aload_n dX5_put_0 0 rfl ?_
  refine aw_iload_n dX5_put_1 1 rfl ?_
  refine aw_iload_n dX5_put_2 2 rfl ?_
  refine aw_iload_n dX5_put_3 3 rfl ?_
  refine aw_lload dX5_put_4 4 rfl ?_
  refine aw_callVi [.int (nI t), .int (nI p), .int (nI w), .long v] [] (sp_X5_putError (d := d - 1) (by omega) (nI t) (nI p) (nI w) v hT) dX5_put_6 ml_X5_173 im_X5_putError (hT.s 0 (by decide)) (hT.n 0 (by decide)) rfl rfl (dl1 (d := d) (by omega)) rfl rfl (Nat.le_of_ble_eq_true rfl) rfl rfl (Nat.zero_le _) (Nat.zero_le _) ?_
  refine aw_topE he ?_
  refine aw_istore [(6, .int 0), (0, .ref 0), (1, .int (nI t)), (2, .int (nI p)), (3, .int (nI w)), (4, .long v)] dX5_put_9 (Nat.le_of_ble_eq_true rfl) rfl ?_
  refine aw_aload_n dX5_put_11 1 rfl ?_
  refine aw_iload dX5_put_12 0 rfl ?_
  refine aw_callVv [.int 0] [] (show Sp (fX5_tally (d - 1)) [.ref 0, .int 0] M (dt none M) by have q := sp_X5_tally (d := d - 1) (by omega) 0 hT; rw [tally_0 M (by decide)] at q; exact q) dX5_put_14 ml_X5_135 im_X5_tally (hT.s 0 (by decide)) (hT.n 0 (by decide)) rfl rfl (dl1 (d := d) (by omega)) rfl rfl (Nat.le_of_ble_eq_true rfl) rfl rfl (Nat.zero_le _) (Nat.zero_le _) ?_
  refine aw_iload dX5_put_17 0 rfl ?_
  refine aw_if_ne 39 dX5_put_19 (by decide) (fun c1 => absurd rfl c1) (fun c1 => ?_)
  refine aw_aload_n dX5_put_22 1 rfl ?_
  refine aw_getR (b := 1) dX5_put_23 fl_X5_11 rfl (hT.s 0 (by decide)) (hT.n 0 (by decide)) (hT.r 0 0 (by decide) (by decide)) ?_
  refine aw_iload_n dX5_put_26 2 rfl ?_
  refine aw_aaldN t (54 + 3 * t) dX5_put_27 (hT.s 1 (by decide)) (hT.n 1 (by decide)) rfl (by omega) (by first | decide | omega) (hT.slot (by omega)) ?_
  refine aw_iload_n dX5_put_28 3 rfl ?_
  refine aw_iload_n dX5_put_29 4 rfl ?_
  refine aw_iload_n dX5_put_30 4 rfl ?_
  refine aw_lload dX5_put_31 5 rfl ?_
  refine aw_callSl [.int (nI w), .long v] [.int (nI w), .int (nI p), .ref (54 + 3 * t)] (sp_X0_passed (d := d - 1) (by omega) w (by omega) v) dX5_put_33 ml_X5_156 sm_X0_passed rfl (dl1 (d := d) (by omega)) rfl rfl (Nat.le_of_ble_eq_true rfl) rfl rfl (Nat.zero_le _) (Nat.zero_le _) ?_
  refine aw_callVv [.int (nI p), .int (nI w), .long (psd w v)] [] (sp_X2_hold (d := d - 1) (by omega) p a w (psd w v) (hT.row ht) (by omega) ha hka hw8 hv) dX5_put_36 ml_X5_160 im_X2_hold (hT.row (t := t) (by omega)).1 (hT.row (t := t) (by omega)).n0 rfl rfl (dl1 (d := d) (by omega)) rfl rfl (Nat.le_of_ble_eq_true rfl) rfl rfl (Nat.zero_le _) (Nat.zero_le _) ?_
  refine aw_iload dX5_put_39 0 rfl ?_
  refine aw_iret dX5_put_41 rfl (Nat.zero_le _) (Nat.zero_le _) ?_
  exact ⟨rfl, rfl⟩
def sX6_isSomething (M : xM) (x1 : Int32) (x2 : Int64) : Bool := (if 8 ≤ x1 then (if x1 = 8 then (wrd x2) else (if x1 = 9 then (sX6_isIn x2 0 5) else (if x1 = 10 then (if (bz (sX6_isThing x2)) = 0 then false else (if (bz (sX6_isRow M (Int64.toInt32 x2))) = 0 then false else true)) else (if x2 = 0 then true else false)))) else (sX6_isNumber x1 x2))
theorem sp_X6_isSomething {d : Nat} (hd : 2 ≤ d) {M : xM} (x1 : Int32) (x2 : Int64) (hT : TR M)  : Sp (fX6_isSomething d) [.ref 0, .int x1, .long x2] M (dt (some (.int (bz (sX6_isSomething M x1 x2)))) (M)) := by
  refine Sp.of pn_X6 (Nat.le_of_ble_eq_true rfl) (fun h => Bool.noConfusion h) ?_
  refine aw_iload_n dX6_isSomething_0 1 rfl ?_
  refine aw_bipush (v := 8) dX6_isSomething_1 (by decide) ?_
  refine aw_icmp_ge 12 dX6_isSomething_3 (by decide) (fun c1 => ?_) (fun c1 => ?_)
  · refine aw_iload_n dX6_isSomething_12 1 rfl ?_
    refine aw_bipush (v := 8) dX6_isSomething_13 (by decide) ?_
    refine aw_icmp_ne 23 dX6_isSomething_15 (by decide) (fun c2 => ?_) (fun c2 => ?_)
    · refine aw_iload_n dX6_isSomething_23 1 rfl ?_
      refine aw_bipush (v := 9) dX6_isSomething_24 (by decide) ?_
      refine aw_icmp_ne 38 dX6_isSomething_26 (by decide) (fun c3 => ?_) (fun c3 => ?_)
      · refine aw_iload_n dX6_isSomething_38 1 rfl ?_
        refine aw_bipush (v := 10) dX6_isSomething_39 (by decide) ?_
        refine aw_icmp_ne 66 dX6_isSomething_41 (by decide) (fun c4 => ?_) (fun c4 => ?_)
        · refine aw_lload_n dX6_isSomething_66 2 rfl ?_
          refine aw_lconst (v := 0) dX6_isSomething_67 (by decide) ?_
          refine aw_lne 76 dX6_isSomething_68 dX6_isSomething_69 (by decide) (fun c5 => ?_) (fun c5 => ?_)
          · refine aw_iconst (v := 0) dX6_isSomething_76 (by decide) ?_
            refine aw_zret dX6_isSomething_77 rfl rfl (Nat.zero_le _) (Nat.zero_le _) ?_
            exact ⟨congrArg (fun z => some (Value.int (bz z))) (show sX6_isSomething M x1 x2 = false by unfold sX6_isSomething; rw [if_pos c1, if_neg c2, if_neg c3, if_neg c4, if_neg c5]).symm, rfl⟩
          · refine aw_iconst (v := 1) dX6_isSomething_72 (by decide) ?_
            refine aw_goto 77 dX6_isSomething_73 (by decide) ?_
            refine aw_zret dX6_isSomething_77 rfl rfl (Nat.zero_le _) (Nat.zero_le _) ?_
            exact ⟨congrArg (fun z => some (Value.int (bz z))) (show sX6_isSomething M x1 x2 = true by unfold sX6_isSomething; rw [if_pos c1, if_neg c2, if_neg c3, if_neg c4, if_pos c5]).symm, rfl⟩
        · refine aw_lload_n dX6_isSomething_44 2 rfl ?_
          refine aw_callSi [.long x2] [] (sp_X6_isThing (d := d - 1) (by omega) x2 ) dX6_isSomething_45 ml_X6_159 sm_X6_isThing rfl (dl1 (d := d) (by omega)) rfl rfl (Nat.le_of_ble_eq_true rfl) rfl rfl (Nat.zero_le _) (Nat.zero_le _) ?_
          refine aw_if_eq 64 dX6_isSomething_48 (by decide) (fun c6 => ?_) (fun c6 => ?_)
          · refine aw_iconst (v := 0) dX6_isSomething_64 (by decide) ?_
            refine aw_zret dX6_isSomething_65 rfl rfl (Nat.zero_le _) (Nat.zero_le _) ?_
            exact ⟨congrArg (fun z => some (Value.int (bz z))) (show sX6_isSomething M x1 x2 = false by unfold sX6_isSomething; rw [if_pos c1, if_neg c2, if_neg c3, if_pos c4, if_pos c6]).symm, rfl⟩
          · refine aw_aload_n dX6_isSomething_51 0 rfl ?_
            refine aw_lload_n dX6_isSomething_52 2 rfl ?_
            refine aw_l2i dX6_isSomething_53 ?_
            refine aw_callVi [.int (Int64.toInt32 x2)] [] (sp_X6_isRow (d := d - 1) (by omega) (Int64.toInt32 x2) hT (thingL_vp c6)) dX6_isSomething_54 ml_X6_166 im_X6_isRow (hT.s 0 (by decide)) (hT.n 0 (by decide)) rfl rfl (dl1 (d := d) (by omega)) rfl rfl (Nat.le_of_ble_eq_true rfl) rfl rfl (Nat.zero_le _) (Nat.zero_le _) ?_
            refine aw_if_eq 64 dX6_isSomething_57 (by decide) (fun c7 => ?_) (fun c7 => ?_)
            · refine aw_iconst (v := 0) dX6_isSomething_64 (by decide) ?_
              refine aw_zret dX6_isSomething_65 rfl rfl (Nat.zero_le _) (Nat.zero_le _) ?_
              exact ⟨congrArg (fun z => some (Value.int (bz z))) (show sX6_isSomething M x1 x2 = false by unfold sX6_isSomething; rw [if_pos c1, if_neg c2, if_neg c3, if_pos c4, if_neg c6, if_pos c7]).symm, rfl⟩
            · refine aw_iconst (v := 1) dX6_isSomething_60 (by decide) ?_
              refine aw_goto 65 dX6_isSomething_61 (by decide) ?_
              refine aw_zret dX6_isSomething_65 rfl rfl (Nat.zero_le _) (Nat.zero_le _) ?_
              exact ⟨congrArg (fun z => some (Value.int (bz z))) (show sX6_isSomething M x1 x2 = true by unfold sX6_isSomething; rw [if_pos c1, if_neg c2, if_neg c3, if_pos c4, if_neg c6, if_neg c7]).symm, rfl⟩
      · refine aw_lload_n dX6_isSomething_29 2 rfl ?_
        refine aw_lconst (v := 0) dX6_isSomething_30 (by decide) ?_
        refine aw_ldc2 dX6_isSomething_31 kc_X6_145 ?_
        refine aw_callSi [.long x2, .long 0, .long 5] [] (sp_X6_isIn (d := d - 1) (by omega) x2 0 5 ) dX6_isSomething_34 ml_X6_73 sm_X6_isIn rfl (dl1 (d := d) (by omega)) rfl rfl (Nat.le_of_ble_eq_true rfl) rfl rfl (Nat.zero_le _) (Nat.zero_le _) ?_
        refine aw_zret dX6_isSomething_37 rfl narrow_bz (Nat.zero_le _) (Nat.zero_le _) ?_
        exact ⟨congrArg (fun z => some (Value.int (bz z))) (show sX6_isSomething M x1 x2 = (sX6_isIn x2 0 5) by unfold sX6_isSomething; rw [if_pos c1, if_neg c2, if_pos c3]).symm, rfl⟩
    · refine aw_lload_n dX6_isSomething_18 2 rfl ?_
      refine aw_callSi [.long x2] [] (sp_X6_isWord (d := d - 1) (by omega) x2 ) dX6_isSomething_19 ml_X6_147 sm_X6_isWord rfl (dl1 (d := d) (by omega)) rfl rfl (Nat.le_of_ble_eq_true rfl) rfl rfl (Nat.zero_le _) (Nat.zero_le _) ?_
      refine aw_zret dX6_isSomething_22 rfl narrow_bz (Nat.zero_le _) (Nat.zero_le _) ?_
      exact ⟨congrArg (fun z => some (Value.int (bz z))) (show sX6_isSomething M x1 x2 = (wrd x2) by unfold sX6_isSomething; rw [if_pos c1, if_pos c2]).symm, rfl⟩
  · refine aw_iload_n dX6_isSomething_6 1 rfl ?_
    refine aw_lload_n dX6_isSomething_7 2 rfl ?_
    refine aw_callSi [.int x1, .long x2] [] (sp_X6_isNumber (d := d - 1) (by omega) x1 x2 ) dX6_isSomething_8 ml_X6_203 sm_X6_isNumber rfl (dl1 (d := d) (by omega)) rfl rfl (Nat.le_of_ble_eq_true rfl) rfl rfl (Nat.zero_le _) (Nat.zero_le _) ?_
    refine aw_zret dX6_isSomething_11 rfl narrow_bz (Nat.zero_le _) (Nat.zero_le _) ?_
    exact ⟨congrArg (fun z => some (Value.int (bz z))) (show sX6_isSomething M x1 x2 = (sX6_isNumber x1 x2) by unfold sX6_isSomething; rw [if_neg c1]).symm, rfl⟩
theorem sp_X6_put_bad {d : Nat} (hd : 4 ≤ d) {M : xM} (x1 x2 x3 : Int32) (v : Int64) (hT : TR M) (h : sX6_isThing x1.toInt64 = false ∨ (sX6_isThing x1.toInt64 = true ∧ (sX6_isIn x3.toInt64 0 11 = false ∨ (sX6_isIn x3.toInt64 0 11 = true ∧ sX6_isSomething M x3 v = false)))) : Sp (fX6_put d) [.ref 0, .int x1, .int x2, .int x3, .long v] M (dt (some (.int (-1))) M) := by
  refine Sp.of pn_X6 (Nat.le_of_ble_eq_true rfl) (fun h => Bool.noConfusion h) ?_
  rcases h with h | ⟨h, h2 | ⟨h2, h3⟩⟩
  · refine aw_iload_n dX6_put_0 1 rfl ?_
    refine aw_i2l dX6_put_1 ?_
    refine aw_callSi [.long (Int32.toInt64 x1)] [] (sp_X6_isThing (d := d - 1) (by omega) (Int32.toInt64 x1) ) dX6_put_2 ml_X6_159 sm_X6_isThing rfl (dl1 (d := d) (by omega)) rfl rfl (Nat.le_of_ble_eq_true rfl) rfl rfl (Nat.zero_le _) (Nat.zero_le _) ?_
    refine aw_if_eq 30 dX6_put_5 (by decide) (fun c1 => ?_) (fun c1 => absurd (bz_0.mpr h) c1)
    refine aw_iconst (v := -1) dX6_put_30 (by decide) ?_
    refine aw_iret dX6_put_31 rfl (Nat.zero_le _) (Nat.zero_le _) ?_
    exact ⟨rfl, rfl⟩
  · refine aw_iload_n dX6_put_0 1 rfl ?_
    refine aw_i2l dX6_put_1 ?_
    refine aw_callSi [.long (Int32.toInt64 x1)] [] (sp_X6_isThing (d := d - 1) (by omega) (Int32.toInt64 x1) ) dX6_put_2 ml_X6_159 sm_X6_isThing rfl (dl1 (d := d) (by omega)) rfl rfl (Nat.le_of_ble_eq_true rfl) rfl rfl (Nat.zero_le _) (Nat.zero_le _) ?_
    refine aw_if_eq 30 dX6_put_5 (by decide) (fun c1 => absurd c1 (bz_n0.mpr h)) (fun c1 => ?_)
    refine aw_iload_n dX6_put_8 3 rfl ?_
    refine aw_i2l dX6_put_9 ?_
    refine aw_lconst (v := 0) dX6_put_10 (by decide) ?_
    refine aw_ldc2 dX6_put_11 kc_X6_119 ?_
    refine aw_callSi [.long (Int32.toInt64 x3), .long 0, .long 11] [] (sp_X6_isIn (d := d - 1) (by omega) (Int32.toInt64 x3) 0 11 ) dX6_put_14 ml_X6_73 sm_X6_isIn rfl (dl1 (d := d) (by omega)) rfl rfl (Nat.le_of_ble_eq_true rfl) rfl rfl (Nat.zero_le _) (Nat.zero_le _) ?_
    refine aw_if_eq 30 dX6_put_17 (by decide) (fun c2 => ?_) (fun c2 => absurd (bz_0.mpr h2) c2)
    refine aw_iconst (v := -1) dX6_put_30 (by decide) ?_
    refine aw_iret dX6_put_31 rfl (Nat.zero_le _) (Nat.zero_le _) ?_
    exact ⟨rfl, rfl⟩
  · refine aw_iload_n dX6_put_0 1 rfl ?_
    refine aw_i2l dX6_put_1 ?_
    refine aw_callSi [.long (Int32.toInt64 x1)] [] (sp_X6_isThing (d := d - 1) (by omega) (Int32.toInt64 x1) ) dX6_put_2 ml_X6_159 sm_X6_isThing rfl (dl1 (d := d) (by omega)) rfl rfl (Nat.le_of_ble_eq_true rfl) rfl rfl (Nat.zero_le _) (Nat.zero_le _) ?_
    refine aw_if_eq 30 dX6_put_5 (by decide) (fun c1 => absurd c1 (bz_n0.mpr h)) (fun c1 => ?_)
    refine aw_iload_n dX6_put_8 3 rfl ?_
    refine aw_i2l dX6_put_9 ?_
    refine aw_lconst (v := 0) dX6_put_10 (by decide) ?_
    refine aw_ldc2 dX6_put_11 kc_X6_119 ?_
    refine aw_callSi [.long (Int32.toInt64 x3), .long 0, .long 11] [] (sp_X6_isIn (d := d - 1) (by omega) (Int32.toInt64 x3) 0 11 ) dX6_put_14 ml_X6_73 sm_X6_isIn rfl (dl1 (d := d) (by omega)) rfl rfl (Nat.le_of_ble_eq_true rfl) rfl rfl (Nat.zero_le _) (Nat.zero_le _) ?_
    refine aw_if_eq 30 dX6_put_17 (by decide) (fun c2 => absurd c2 (bz_n0.mpr h2)) (fun c2 => ?_)
    refine aw_aload_n dX6_put_20 0 rfl ?_
    refine aw_iload_n dX6_put_21 3 rfl ?_
    refine aw_lload dX6_put_22 4 rfl ?_
    refine aw_callVi [.int x3, .long v] [] (sp_X6_isSomething (d := d - 1) (by omega) x3 v hT) dX6_put_24 ml_X6_210 im_X6_isSomething (hT.s 0 (by decide)) (hT.n 0 (by decide)) rfl rfl (dl1 (d := d) (by omega)) rfl rfl (Nat.le_of_ble_eq_true rfl) rfl rfl (Nat.zero_le _) (Nat.zero_le _) ?_
    refine aw_if_ne 32 dX6_put_27 (by decide) (fun c3 => absurd (bz_0.mpr h3) c3) (fun c3 => ?_)
    refine aw_iconst (v := -1) dX6_put_30 (by decide) ?_
    refine aw_iret dX6_put_31 rfl (Nat.zero_le _) (Nat.zero_le _) ?_
    exact ⟨rfl, rfl⟩
theorem sp_X6_put_r {d : Nat} (hd : 4 ≤ d) {M : xM} (x1 x2 x3 : Int32) (v : Int64) (hT : TR M) (h : sX6_isThing x1.toInt64 = true) (h2 : sX6_isIn x3.toInt64 0 11 = true) (h3 : sX6_isSomething M x3 v = true) (h4 : sX6_refusal M x1 < 0) : Sp (fX6_put d) [.ref 0, .int x1, .int x2, .int x3, .long v] M (dt (some (.int (sX6_refusal M x1))) (tX6_counts M (sX6_refusal M x1))) := by
  refine Sp.of pn_X6 (Nat.le_of_ble_eq_true rfl) (fun h => Bool.noConfusion h) ?_
  refine aw_iload_n dX6_put_0 1 rfl ?_
  refine aw_i2l dX6_put_1 ?_
  refine aw_callSi [.long (Int32.toInt64 x1)] [] (sp_X6_isThing (d := d - 1) (by omega) (Int32.toInt64 x1) ) dX6_put_2 ml_X6_159 sm_X6_isThing rfl (dl1 (d := d) (by omega)) rfl rfl (Nat.le_of_ble_eq_true rfl) rfl rfl (Nat.zero_le _) (Nat.zero_le _) ?_
  refine aw_if_eq 30 dX6_put_5 (by decide) (fun c1 => absurd c1 (bz_n0.mpr h)) (fun c1 => ?_)
  refine aw_iload_n dX6_put_8 3 rfl ?_
  refine aw_i2l dX6_put_9 ?_
  refine aw_lconst (v := 0) dX6_put_10 (by decide) ?_
  refine aw_ldc2 dX6_put_11 kc_X6_119 ?_
  refine aw_callSi [.long (Int32.toInt64 x3), .long 0, .long 11] [] (sp_X6_isIn (d := d - 1) (by omega) (Int32.toInt64 x3) 0 11 ) dX6_put_14 ml_X6_73 sm_X6_isIn rfl (dl1 (d := d) (by omega)) rfl rfl (Nat.le_of_ble_eq_true rfl) rfl rfl (Nat.zero_le _) (Nat.zero_le _) ?_
  refine aw_if_eq 30 dX6_put_17 (by decide) (fun c2 => absurd c2 (bz_n0.mpr h2)) (fun c2 => ?_)
  refine aw_aload_n dX6_put_20 0 rfl ?_
  refine aw_iload_n dX6_put_21 3 rfl ?_
  refine aw_lload dX6_put_22 4 rfl ?_
  refine aw_callVi [.int x3, .long v] [] (sp_X6_isSomething (d := d - 1) (by omega) x3 v hT) dX6_put_24 ml_X6_210 im_X6_isSomething (hT.s 0 (by decide)) (hT.n 0 (by decide)) rfl rfl (dl1 (d := d) (by omega)) rfl rfl (Nat.le_of_ble_eq_true rfl) rfl rfl (Nat.zero_le _) (Nat.zero_le _) ?_
  refine aw_if_ne 32 dX6_put_27 (by decide) (fun c3 => ?_) (fun c3 => absurd c3 (bz_n0.mpr h3))
  refine aw_aload_n dX6_put_32 0 rfl ?_
  refine aw_iload_n dX6_put_33 1 rfl ?_
  refine aw_callVi [.int x1] [] (sp_X6_refusal (d := d - 1) (by omega) x1 hT (thing_vp c1)) dX6_put_34 ml_X6_162 im_X6_refusal (hT.s 0 (by decide)) (hT.n 0 (by decide)) rfl rfl (dl1 (d := d) (by omega)) rfl rfl (Nat.le_of_ble_eq_true rfl) rfl rfl (Nat.zero_le _) (Nat.zero_le _) ?_
  refine aw_istore [(6, .int (sX6_refusal M x1)), (0, .ref 0), (1, .int x1), (2, .int x2), (3, .int x3), (4, .long v)] dX6_put_37 (Nat.le_of_ble_eq_true rfl) rfl ?_
  refine aw_iload dX6_put_39 0 rfl ?_
  refine aw_if_ne 58 dX6_put_41 (by decide) (fun c4 => ?_) (fun c4 => absurd c4 (fun z => by rw [z] at h4; exact absurd h4 (by decide)))
  refine aw_iload dX6_put_58 0 rfl ?_
  refine aw_if_ne 98 dX6_put_60 (by decide) (fun c5 => ?_) (fun c5 => absurd c5 (fun z => by rw [z] at h4; exact absurd h4 (by decide)))
  refine aw_iload dX6_put_98 0 rfl ?_
  refine aw_if_ge 110 dX6_put_100 (by decide) (fun c6 => absurd h4 (Int32.not_lt.mpr c6)) (fun c6 => ?_)
  refine aw_aload_n dX6_put_103 1 rfl ?_
  refine aw_iload dX6_put_104 0 rfl ?_
  refine aw_callVi [.int (sX6_refusal M x1)] [] (sp_X6_counts (d := d - 1) (by omega) (sX6_refusal M x1) hT) dX6_put_106 ml_X6_200 im_X6_counts (hT.s 0 (by decide)) (hT.n 0 (by decide)) rfl rfl (dl1 (d := d) (by omega)) rfl rfl (Nat.le_of_ble_eq_true rfl) rfl rfl (Nat.zero_le _) (Nat.zero_le _) ?_
  refine aw_iret dX6_put_109 rfl (Nat.zero_le _) (Nat.zero_le _) ?_
  exact ⟨congrArg (fun z => some (Value.int z)) (cts _), rfl⟩
theorem sp_X6_put_p {d : Nat} (hd : 4 ≤ d) {M : xM} (x1 x2 x3 : Int32) (v : Int64) (hT : TR M) (h : sX6_isThing x1.toInt64 = true) (h2 : sX6_isIn x3.toInt64 0 11 = true) (h3 : sX6_isSomething M x3 v = true) (h4 : sX6_refusal M x1 = 0) (h6 : sX6_isPlace M x1 x2.toInt64 = false) : Sp (fX6_put d) [.ref 0, .int x1, .int x2, .int x3, .long v] M (dt (some (.int (-8))) (tX6_counts M (-8))) := by
  refine Sp.of pn_X6 (Nat.le_of_ble_eq_true rfl) (fun h => Bool.noConfusion h) ?_
  refine aw_iload_n dX6_put_0 1 rfl ?_
  refine aw_i2l dX6_put_1 ?_
  refine aw_callSi [.long (Int32.toInt64 x1)] [] (sp_X6_isThing (d := d - 1) (by omega) (Int32.toInt64 x1) ) dX6_put_2 ml_X6_159 sm_X6_isThing rfl (dl1 (d := d) (by omega)) rfl rfl (Nat.le_of_ble_eq_true rfl) rfl rfl (Nat.zero_le _) (Nat.zero_le _) ?_
  refine aw_if_eq 30 dX6_put_5 (by decide) (fun c1 => absurd c1 (bz_n0.mpr h)) (fun c1 => ?_)
  refine aw_iload_n dX6_put_8 3 rfl ?_
  refine aw_i2l dX6_put_9 ?_
  refine aw_lconst (v := 0) dX6_put_10 (by decide) ?_
  refine aw_ldc2 dX6_put_11 kc_X6_119 ?_
  refine aw_callSi [.long (Int32.toInt64 x3), .long 0, .long 11] [] (sp_X6_isIn (d := d - 1) (by omega) (Int32.toInt64 x3) 0 11 ) dX6_put_14 ml_X6_73 sm_X6_isIn rfl (dl1 (d := d) (by omega)) rfl rfl (Nat.le_of_ble_eq_true rfl) rfl rfl (Nat.zero_le _) (Nat.zero_le _) ?_
  refine aw_if_eq 30 dX6_put_17 (by decide) (fun c2 => absurd c2 (bz_n0.mpr h2)) (fun c2 => ?_)
  refine aw_aload_n dX6_put_20 0 rfl ?_
  refine aw_iload_n dX6_put_21 3 rfl ?_
  refine aw_lload dX6_put_22 4 rfl ?_
  refine aw_callVi [.int x3, .long v] [] (sp_X6_isSomething (d := d - 1) (by omega) x3 v hT) dX6_put_24 ml_X6_210 im_X6_isSomething (hT.s 0 (by decide)) (hT.n 0 (by decide)) rfl rfl (dl1 (d := d) (by omega)) rfl rfl (Nat.le_of_ble_eq_true rfl) rfl rfl (Nat.zero_le _) (Nat.zero_le _) ?_
  refine aw_if_ne 32 dX6_put_27 (by decide) (fun c3 => ?_) (fun c3 => absurd c3 (bz_n0.mpr h3))
  refine aw_aload_n dX6_put_32 0 rfl ?_
  refine aw_iload_n dX6_put_33 1 rfl ?_
  refine aw_callVi [.int x1] [] (sp_X6_refusal (d := d - 1) (by omega) x1 hT (thing_vp c1)) dX6_put_34 ml_X6_162 im_X6_refusal (hT.s 0 (by decide)) (hT.n 0 (by decide)) rfl rfl (dl1 (d := d) (by omega)) rfl rfl (Nat.le_of_ble_eq_true rfl) rfl rfl (Nat.zero_le _) (Nat.zero_le _) ?_
  refine aw_istore [(6, .int (sX6_refusal M x1)), (0, .ref 0), (1, .int x1), (2, .int x2), (3, .int x3), (4, .long v)] dX6_put_37 (Nat.le_of_ble_eq_true rfl) rfl ?_
  refine aw_iload dX6_put_39 0 rfl ?_
  refine aw_if_ne 58 dX6_put_41 (by decide) (fun c4 => absurd h4 c4) (fun c4 => ?_)
  refine aw_aload_n dX6_put_44 1 rfl ?_
  refine aw_iload_n dX6_put_45 2 rfl ?_
  refine aw_iload_n dX6_put_46 3 rfl ?_
  refine aw_i2l dX6_put_47 ?_
  refine aw_callVi [.int x1, .long (Int32.toInt64 x2)] [] (sp_X6_isPlace (d := d - 1) (by omega) x1 (Int32.toInt64 x2) hT (thing_vp c1)) dX6_put_48 ml_X6_186 im_X6_isPlace (hT.s 0 (by decide)) (hT.n 0 (by decide)) rfl rfl (dl1 (d := d) (by omega)) rfl rfl (Nat.le_of_ble_eq_true rfl) rfl rfl (Nat.zero_le _) (Nat.zero_le _) ?_
  refine aw_if_ne 58 dX6_put_51 (by decide) (fun c5 => absurd (bz_0.mpr h6) c5) (fun c5 => ?_)
  refine aw_bipush (v := -8) dX6_put_54 (by decide) ?_
  refine aw_istore [(6, .int (-8)), (0, .ref 0), (1, .int x1), (2, .int x2), (3, .int x3), (4, .long v)] dX6_put_56 (Nat.le_of_ble_eq_true rfl) rfl ?_
  refine aw_iload dX6_put_58 0 rfl ?_
  refine aw_if_ne 98 dX6_put_60 (by decide) (fun c6 => ?_) (fun c6 => absurd c6 (by decide))
  refine aw_iload dX6_put_98 0 rfl ?_
  refine aw_if_ge 110 dX6_put_100 (by decide) (fun c7 => absurd c7 (by decide)) (fun c7 => ?_)
  refine aw_aload_n dX6_put_103 1 rfl ?_
  refine aw_iload dX6_put_104 0 rfl ?_
  refine aw_callVi [.int (-8)] [] (sp_X6_counts (d := d - 1) (by omega) (-8) hT) dX6_put_106 ml_X6_200 im_X6_counts (hT.s 0 (by decide)) (hT.n 0 (by decide)) rfl rfl (dl1 (d := d) (by omega)) rfl rfl (Nat.le_of_ble_eq_true rfl) rfl rfl (Nat.zero_le _) (Nat.zero_le _) ?_
  refine aw_iret dX6_put_109 rfl (Nat.zero_le _) (Nat.zero_le _) ?_
  exact ⟨congrArg (fun z => some (Value.int z)) (cts _), rfl⟩
theorem sp_X6_put_k {d : Nat} (hd : 4 ≤ d) {M : xM} (t p w a : Nat) (v : Int64) (hT : TR M) (ht : t < 12) (hp : p < 12) (hw : w < 12) (ha : a < 14) (hka : mI M 1 t = nI a) (hv : w = 6 → okF 6 (psd w v)) (h13 : a = 13 → w = 10 → vp_in (psd w v).toInt32 24) (h : sX6_isThing (lN t) = true) (h2 : sX6_isIn (lN w) 0 11 = true) (h3 : sX6_isSomething M (nI w) v = true) (h4 : sX6_refusal M (nI t) = 0) (h6 : sX6_isPlace M (nI t) (lN p) = true) (h7 : tkB (kd4 M (psd w v)) a w (psd w v) = false) : Sp (fX6_put d) [.ref 0, .int (nI t), .int (nI p), .int (nI w), .long v] M (dt (some (.int (-9))) (tX6_counts (tkM M (nI w) (psd w v)) (-9))) := by
  refine Sp.of pn_X6 (Nat.le_of_ble_eq_true rfl) (fun h => Bool.noConfusion h) ?_
  refine aw_iload_n dX6_put_0 1 rfl ?_
  refine aw_i2lN t dX6_put_1 rfl (by omega) ?_
  refine aw_callSi [.long (lN t)] [] (sp_X6_isThing (d := d - 1) (by omega) (lN t) ) dX6_put_2 ml_X6_159 sm_X6_isThing rfl (dl1 (d := d) (by omega)) rfl rfl (Nat.le_of_ble_eq_true rfl) rfl rfl (Nat.zero_le _) (Nat.zero_le _) ?_
  refine aw_if_eq 30 dX6_put_5 (by decide) (fun c1 => absurd c1 (bz_n0.mpr h)) (fun c1 => ?_)
  refine aw_iload_n dX6_put_8 3 rfl ?_
  refine aw_i2lN w dX6_put_9 rfl (by omega) ?_
  refine aw_lconst (v := 0) dX6_put_10 (by decide) ?_
  refine aw_ldc2 dX6_put_11 kc_X6_119 ?_
  refine aw_callSi [.long (lN w), .long 0, .long 11] [] (sp_X6_isIn (d := d - 1) (by omega) (lN w) 0 11 ) dX6_put_14 ml_X6_73 sm_X6_isIn rfl (dl1 (d := d) (by omega)) rfl rfl (Nat.le_of_ble_eq_true rfl) rfl rfl (Nat.zero_le _) (Nat.zero_le _) ?_
  refine aw_if_eq 30 dX6_put_17 (by decide) (fun c2 => absurd c2 (bz_n0.mpr h2)) (fun c2 => ?_)
  refine aw_aload_n dX6_put_20 0 rfl ?_
  refine aw_iload_n dX6_put_21 3 rfl ?_
  refine aw_lload dX6_put_22 4 rfl ?_
  refine aw_callVi [.int (nI w), .long v] [] (sp_X6_isSomething (d := d - 1) (by omega) (nI w) v hT) dX6_put_24 ml_X6_210 im_X6_isSomething (hT.s 0 (by decide)) (hT.n 0 (by decide)) rfl rfl (dl1 (d := d) (by omega)) rfl rfl (Nat.le_of_ble_eq_true rfl) rfl rfl (Nat.zero_le _) (Nat.zero_le _) ?_
  refine aw_if_ne 32 dX6_put_27 (by decide) (fun c3 => ?_) (fun c3 => absurd c3 (bz_n0.mpr h3))
  refine aw_aload_n dX6_put_32 0 rfl ?_
  refine aw_iload_n dX6_put_33 1 rfl ?_
  refine aw_callVi [.int (nI t)] [] (sp_X6_refusal (d := d - 1) (by omega) (nI t) hT (vp_in_nI (by omega) (by decide))) dX6_put_34 ml_X6_162 im_X6_refusal (hT.s 0 (by decide)) (hT.n 0 (by decide)) rfl rfl (dl1 (d := d) (by omega)) rfl rfl (Nat.le_of_ble_eq_true rfl) rfl rfl (Nat.zero_le _) (Nat.zero_le _) ?_
  refine aw_istore [(6, .int (sX6_refusal M (nI t))), (0, .ref 0), (1, .int (nI t)), (2, .int (nI p)), (3, .int (nI w)), (4, .long v)] dX6_put_37 (Nat.le_of_ble_eq_true rfl) rfl ?_
  refine aw_iload dX6_put_39 0 rfl ?_
  refine aw_if_ne 58 dX6_put_41 (by decide) (fun c4 => absurd h4 c4) (fun c4 => ?_)
  refine aw_aload_n dX6_put_44 1 rfl ?_
  refine aw_iload_n dX6_put_45 2 rfl ?_
  refine aw_iload_n dX6_put_46 3 rfl ?_
  refine aw_i2lN p dX6_put_47 rfl (by omega) ?_
  refine aw_callVi [.int (nI t), .long (lN p)] [] (sp_X6_isPlace (d := d - 1) (by omega) (nI t) (lN p) hT (vp_in_nI (by omega) (by decide))) dX6_put_48 ml_X6_186 im_X6_isPlace (hT.s 0 (by decide)) (hT.n 0 (by decide)) rfl rfl (dl1 (d := d) (by omega)) rfl rfl (Nat.le_of_ble_eq_true rfl) rfl rfl (Nat.zero_le _) (Nat.zero_le _) ?_
  refine aw_if_ne 58 dX6_put_51 (by decide) (fun c5 => ?_) (fun c5 => absurd c5 (bz_n0.mpr h6))
  refine aw_iload dX6_put_58 0 rfl ?_
  refine aw_if_ne 98 dX6_put_60 (by decide) (fun c6 => absurd h4 c6) (fun c6 => ?_)
  refine aw_aload_n dX6_put_63 1 rfl ?_
  refine aw_aload_n dX6_put_64 1 rfl ?_
  refine aw_getR (b := 1) dX6_put_65 fl_X6_7 rfl (hT.s 0 (by decide)) (hT.n 0 (by decide)) (hT.r 0) ?_
  refine aw_iload_n dX6_put_68 2 rfl ?_
  refine aw_ialdN t dX6_put_69 (hT.s 1 (by decide)) (hT.n 1 (by decide)) rfl (by omega) (by first | decide | omega) ?_
  refine aw_topE hka ?_
  refine aw_iload_n dX6_put_70 4 rfl ?_
  refine aw_iload_n dX6_put_71 4 rfl ?_
  refine aw_bipush (v := 8) dX6_put_72 (by decide) ?_
  refine aw_icmp_geN w 8 86 dX6_put_74 (by decide) rfl rfl (by omega) (by omega) (fun c7 => ?_) (fun c7 => ?_)
  · refine aw_lload dX6_put_86 5 rfl ?_
    refine aw_callVi [.int (nI a), .int (nI w), .long v] [] (show Sp (fX6_takes (d - 1)) [.ref 0, .int (nI a), .int (nI w), .long v] M (dt (some (.int (bz (tkB (kd4 M (psd w v)) a w (psd w v))))) (tkR M a w (psd w v))) by have q := sp_X6_takes (d := d - 1) (by omega) a w (psd w v) hT ha hw h13 hv; rw [psd_o (show 8 ≤ w by omega) v] at q ⊢; exact q) dX6_put_88 ml_X6_213 im_X6_takes (hT.s 0 (by decide)) (hT.n 0 (by decide)) rfl rfl (dl1 (d := d) (by omega)) rfl rfl (Nat.le_of_ble_eq_true rfl) rfl rfl (Nat.zero_le _) (Nat.zero_le _) ?_
    refine aw_if_ne 98 dX6_put_91 (by decide) (fun c8 => absurd (bz_0.mpr h7) c8) (fun c8 => ?_)
    refine aw_bipush (v := -9) dX6_put_94 (by decide) ?_
    refine aw_istore [(6, .int (-9)), (0, .ref 0), (1, .int (nI t)), (2, .int (nI p)), (3, .int (nI w)), (4, .long v)] dX6_put_96 (Nat.le_of_ble_eq_true rfl) rfl ?_
    refine aw_iload dX6_put_98 0 rfl ?_
    refine aw_if_ge 110 dX6_put_100 (by decide) (fun c9 => absurd c9 (by decide)) (fun c9 => ?_)
    refine aw_aload_n dX6_put_103 1 rfl ?_
    refine aw_iload dX6_put_104 0 rfl ?_
    refine aw_callVi [.int (-9)] [] (sp_X6_counts (d := d - 1) (by omega) (-9) ((sT_tkR M a w (psd w v)).TR hT)) dX6_put_106 ml_X6_200 im_X6_counts (((sT_tkR M a w (psd w v)).TR hT).s 0 (by decide)) (((sT_tkR M a w (psd w v)).TR hT).n 0 (by decide)) rfl rfl (dl1 (d := d) (by omega)) rfl rfl (Nat.le_of_ble_eq_true rfl) rfl rfl (Nat.zero_le _) (Nat.zero_le _) ?_
    refine aw_iret dX6_put_109 rfl (Nat.zero_le _) (Nat.zero_le _) ?_
    refine ⟨congrArg (fun z => some (Value.int z)) (cts _), ?_⟩
    rw [tkR_f h7]
  · refine aw_iload_n dX6_put_77 4 rfl ?_
    refine aw_lload dX6_put_78 5 rfl ?_
    refine aw_callSl [.int (nI w), .long v] [.int (nI w), .int (nI a), .ref 0] (sp_X6_given (d := d - 1) (by omega) w hw v) dX6_put_80 ml_X6_206 sm_X6_given rfl (dl1 (d := d) (by omega)) rfl rfl (Nat.le_of_ble_eq_true rfl) rfl rfl (Nat.zero_le _) (Nat.zero_le _) ?_
    refine aw_goto 88 dX6_put_83 (by decide) ?_
    refine aw_callVi [.int (nI a), .int (nI w), .long (psd w v)] [] (show Sp (fX6_takes (d - 1)) [.ref 0, .int (nI a), .int (nI w), .long (psd w v)] M (dt (some (.int (bz (tkB (kd4 M (psd w v)) a w (psd w v))))) (tkR M a w (psd w v))) by have q := sp_X6_takes (d := d - 1) (by omega) a w (psd w v) hT ha hw h13 hv; exact q) dX6_put_88 ml_X6_213 im_X6_takes (hT.s 0 (by decide)) (hT.n 0 (by decide)) rfl rfl (dl1 (d := d) (by omega)) rfl rfl (Nat.le_of_ble_eq_true rfl) rfl rfl (Nat.zero_le _) (Nat.zero_le _) ?_
    refine aw_if_ne 98 dX6_put_91 (by decide) (fun c10 => absurd (bz_0.mpr h7) c10) (fun c10 => ?_)
    refine aw_bipush (v := -9) dX6_put_94 (by decide) ?_
    refine aw_istore [(6, .int (-9)), (0, .ref 0), (1, .int (nI t)), (2, .int (nI p)), (3, .int (nI w)), (4, .long v)] dX6_put_96 (Nat.le_of_ble_eq_true rfl) rfl ?_
    refine aw_iload dX6_put_98 0 rfl ?_
    refine aw_if_ge 110 dX6_put_100 (by decide) (fun c11 => absurd c11 (by decide)) (fun c11 => ?_)
    refine aw_aload_n dX6_put_103 1 rfl ?_
    refine aw_iload dX6_put_104 0 rfl ?_
    refine aw_callVi [.int (-9)] [] (sp_X6_counts (d := d - 1) (by omega) (-9) ((sT_tkR M a w (psd w v)).TR hT)) dX6_put_106 ml_X6_200 im_X6_counts (((sT_tkR M a w (psd w v)).TR hT).s 0 (by decide)) (((sT_tkR M a w (psd w v)).TR hT).n 0 (by decide)) rfl rfl (dl1 (d := d) (by omega)) rfl rfl (Nat.le_of_ble_eq_true rfl) rfl rfl (Nat.zero_le _) (Nat.zero_le _) ?_
    refine aw_iret dX6_put_109 rfl (Nat.zero_le _) (Nat.zero_le _) ?_
    refine ⟨congrArg (fun z => some (Value.int z)) (cts _), ?_⟩
    rw [tkR_f h7]
theorem sp_X6_put_ok {d : Nat} (hd : 4 ≤ d) {M : xM} (t p w a : Nat) (v : Int64) (hT : TR M) (ht : t < 12) (hp : p < 12) (hw : w < 12) (ha : a < 14) (hka : mI M 1 t = nI a) (hv : w = 6 → okF 6 (psd w v)) (h13 : a = 13 → w = 10 → vp_in (psd w v).toInt32 24) (h : sX6_isThing (lN t) = true) (h2 : sX6_isIn (lN w) 0 11 = true) (h3 : sX6_isSomething M (nI w) v = true) (h4 : sX6_refusal M (nI t) = 0) (h6 : sX6_isPlace M (nI t) (lN p) = true) (h7 : tkB (kd4 M (psd w v)) a w (psd w v) = true) : Sp (fX6_put d) [.ref 0, .int (nI t), .int (nI p), .int (nI w), .long v] M (dt (some (.int 0)) (celM (tkM M (nI (hwt a w)) (hvl a w (psd w v))) (12 * t + p) (nI (hwt a w)) (hvl a w (psd w v)))) := by
  refine Sp.of pn_X6 (Nat.le_of_ble_eq_true rfl) (fun h => Bool.noConfusion h) ?_
  refine aw_iload_n dX6_put_0 1 rfl ?_
  refine aw_i2lN t dX6_put_1 rfl (by omega) ?_
  refine aw_callSi [.long (lN t)] [] (sp_X6_isThing (d := d - 1) (by omega) (lN t) ) dX6_put_2 ml_X6_159 sm_X6_isThing rfl (dl1 (d := d) (by omega)) rfl rfl (Nat.le_of_ble_eq_true rfl) rfl rfl (Nat.zero_le _) (Nat.zero_le _) ?_
  refine aw_if_eq 30 dX6_put_5 (by decide) (fun c1 => absurd c1 (bz_n0.mpr h)) (fun c1 => ?_)
  refine aw_iload_n dX6_put_8 3 rfl ?_
  refine aw_i2lN w dX6_put_9 rfl (by omega) ?_
  refine aw_lconst (v := 0) dX6_put_10 (by decide) ?_
  refine aw_ldc2 dX6_put_11 kc_X6_119 ?_
  refine aw_callSi [.long (lN w), .long 0, .long 11] [] (sp_X6_isIn (d := d - 1) (by omega) (lN w) 0 11 ) dX6_put_14 ml_X6_73 sm_X6_isIn rfl (dl1 (d := d) (by omega)) rfl rfl (Nat.le_of_ble_eq_true rfl) rfl rfl (Nat.zero_le _) (Nat.zero_le _) ?_
  refine aw_if_eq 30 dX6_put_17 (by decide) (fun c2 => absurd c2 (bz_n0.mpr h2)) (fun c2 => ?_)
  refine aw_aload_n dX6_put_20 0 rfl ?_
  refine aw_iload_n dX6_put_21 3 rfl ?_
  refine aw_lload dX6_put_22 4 rfl ?_
  refine aw_callVi [.int (nI w), .long v] [] (sp_X6_isSomething (d := d - 1) (by omega) (nI w) v hT) dX6_put_24 ml_X6_210 im_X6_isSomething (hT.s 0 (by decide)) (hT.n 0 (by decide)) rfl rfl (dl1 (d := d) (by omega)) rfl rfl (Nat.le_of_ble_eq_true rfl) rfl rfl (Nat.zero_le _) (Nat.zero_le _) ?_
  refine aw_if_ne 32 dX6_put_27 (by decide) (fun c3 => ?_) (fun c3 => absurd c3 (bz_n0.mpr h3))
  refine aw_aload_n dX6_put_32 0 rfl ?_
  refine aw_iload_n dX6_put_33 1 rfl ?_
  refine aw_callVi [.int (nI t)] [] (sp_X6_refusal (d := d - 1) (by omega) (nI t) hT (vp_in_nI (by omega) (by decide))) dX6_put_34 ml_X6_162 im_X6_refusal (hT.s 0 (by decide)) (hT.n 0 (by decide)) rfl rfl (dl1 (d := d) (by omega)) rfl rfl (Nat.le_of_ble_eq_true rfl) rfl rfl (Nat.zero_le _) (Nat.zero_le _) ?_
  refine aw_istore [(6, .int (sX6_refusal M (nI t))), (0, .ref 0), (1, .int (nI t)), (2, .int (nI p)), (3, .int (nI w)), (4, .long v)] dX6_put_37 (Nat.le_of_ble_eq_true rfl) rfl ?_
  refine aw_iload dX6_put_39 0 rfl ?_
  refine aw_if_ne 58 dX6_put_41 (by decide) (fun c4 => absurd h4 c4) (fun c4 => ?_)
  refine aw_aload_n dX6_put_44 1 rfl ?_
  refine aw_iload_n dX6_put_45 2 rfl ?_
  refine aw_iload_n dX6_put_46 3 rfl ?_
  refine aw_i2lN p dX6_put_47 rfl (by omega) ?_
  refine aw_callVi [.int (nI t), .long (lN p)] [] (sp_X6_isPlace (d := d - 1) (by omega) (nI t) (lN p) hT (vp_in_nI (by omega) (by decide))) dX6_put_48 ml_X6_186 im_X6_isPlace (hT.s 0 (by decide)) (hT.n 0 (by decide)) rfl rfl (dl1 (d := d) (by omega)) rfl rfl (Nat.le_of_ble_eq_true rfl) rfl rfl (Nat.zero_le _) (Nat.zero_le _) ?_
  refine aw_if_ne 58 dX6_put_51 (by decide) (fun c5 => ?_) (fun c5 => absurd c5 (bz_n0.mpr h6))
  refine aw_iload dX6_put_58 0 rfl ?_
  refine aw_if_ne 98 dX6_put_60 (by decide) (fun c6 => absurd h4 c6) (fun c6 => ?_)
  refine aw_aload_n dX6_put_63 1 rfl ?_
  refine aw_aload_n dX6_put_64 1 rfl ?_
  refine aw_getR (b := 1) dX6_put_65 fl_X6_7 rfl (hT.s 0 (by decide)) (hT.n 0 (by decide)) (hT.r 0) ?_
  refine aw_iload_n dX6_put_68 2 rfl ?_
  refine aw_ialdN t dX6_put_69 (hT.s 1 (by decide)) (hT.n 1 (by decide)) rfl (by omega) (by first | decide | omega) ?_
  refine aw_topE hka ?_
  refine aw_iload_n dX6_put_70 4 rfl ?_
  refine aw_iload_n dX6_put_71 4 rfl ?_
  refine aw_bipush (v := 8) dX6_put_72 (by decide) ?_
  refine aw_icmp_geN w 8 86 dX6_put_74 (by decide) rfl rfl (by omega) (by omega) (fun c7 => ?_) (fun c7 => ?_)
  · refine aw_lload dX6_put_86 5 rfl ?_
    refine aw_callVi [.int (nI a), .int (nI w), .long v] [] (show Sp (fX6_takes (d - 1)) [.ref 0, .int (nI a), .int (nI w), .long v] M (dt (some (.int (bz (tkB (kd4 M (psd w v)) a w (psd w v))))) (tkR M a w (psd w v))) by have q := sp_X6_takes (d := d - 1) (by omega) a w (psd w v) hT ha hw h13 hv; rw [psd_o (show 8 ≤ w by omega) v] at q ⊢; exact q) dX6_put_88 ml_X6_213 im_X6_takes (hT.s 0 (by decide)) (hT.n 0 (by decide)) rfl rfl (dl1 (d := d) (by omega)) rfl rfl (Nat.le_of_ble_eq_true rfl) rfl rfl (Nat.zero_le _) (Nat.zero_le _) ?_
    refine aw_if_ne 98 dX6_put_91 (by decide) (fun c8 => ?_) (fun c8 => absurd c8 (bz_n0.mpr h7))
    refine aw_iload dX6_put_98 0 rfl ?_
    refine aw_if_ge 110 dX6_put_100 (by decide) (fun c9 => ?_) (fun c9 => absurd (by rw [h4]; decide) c9)
    refine aw_aload_n dX6_put_110 1 rfl ?_
    refine aw_getR (b := 4) dX6_put_111 fl_X6_20 rfl (((sT_tkR M a w (psd w v)).TR hT).s 0 (by decide)) (((sT_tkR M a w (psd w v)).TR hT).n 0 (by decide)) (((sT_tkR M a w (psd w v)).TR hT).r 3) ?_
    refine aw_bipush (v := 12) dX6_put_114 (by decide) ?_
    refine aw_iload_n dX6_put_116 2 rfl ?_
    refine aw_imulN 12 t dX6_put_117 rfl rfl ?_
    refine aw_iload_n dX6_put_118 3 rfl ?_
    refine aw_iaddN (12 * t) p dX6_put_119 rfl rfl ?_
    refine aw_aload_n dX6_put_120 1 rfl ?_
    refine aw_getI dX6_put_121 fl_X6_121 (((sT_tkR M a w (psd w v)).TR hT).s 0 (by decide)) (((sT_tkR M a w (psd w v)).TR hT).n 0 (by decide)) ?_
    refine aw_topE (show mI (tkR M a w (psd w v)) 0 27 = nI (hwt a w) by rw [tkR_t h7]; exact (tkM_27 _ _ _).1) ?_
    refine aw_iastN ((12 * t) + p) dX6_put_124 (((sT_tkR M a w (psd w v)).TR hT).s 4 (by decide)) (((sT_tkR M a w (psd w v)).TR hT).n 4 (by decide)) rfl (by omega) (by first | decide | omega) ?_
    refine aw_aload_n dX6_put_125 1 rfl ?_
    refine aw_getR (b := 5) dX6_put_126 fl_X6_23 rfl (((sT_tkR M a w (psd w v)).TR hT).s 0 (by decide)) (((sT_tkR M a w (psd w v)).TR hT).n 0 (by decide)) (((sT_tkR M a w (psd w v)).TR hT).r 4) ?_
    refine aw_bipush (v := 12) dX6_put_129 (by decide) ?_
    refine aw_iload_n dX6_put_131 2 rfl ?_
    refine aw_imulN 12 t dX6_put_132 rfl rfl ?_
    refine aw_iload_n dX6_put_133 3 rfl ?_
    refine aw_iaddN (12 * t) p dX6_put_134 rfl rfl ?_
    refine aw_aload_n dX6_put_135 1 rfl ?_
    refine aw_getL dX6_put_136 fl_X6_124 (((sT_tkR M a w (psd w v)).TR hT).s 0 (by decide)) (((sT_tkR M a w (psd w v)).TR hT).n 0 (by decide)) ?_
    refine aw_toplE (show _ = hvl a w (psd w v) from ?_) ?_
    · rw [mL_stI_c, tkR_t h7]; exact (tkM_27 _ _ _).2
    refine aw_lastN ((12 * t) + p) dX6_put_139 (((sT_tkR M a w (psd w v)).TR hT).s 5 (by decide)) (((sT_tkR M a w (psd w v)).TR hT).n 5 (by decide)) rfl (by omega) (by first | decide | omega) ?_
    refine aw_iconst (v := 0) dX6_put_140 (by decide) ?_
    refine aw_iret dX6_put_141 rfl (Nat.zero_le _) (Nat.zero_le _) ?_
    exact ⟨rfl, (by rw [tkR_t h7]; rfl)⟩
  · refine aw_iload_n dX6_put_77 4 rfl ?_
    refine aw_lload dX6_put_78 5 rfl ?_
    refine aw_callSl [.int (nI w), .long v] [.int (nI w), .int (nI a), .ref 0] (sp_X6_given (d := d - 1) (by omega) w hw v) dX6_put_80 ml_X6_206 sm_X6_given rfl (dl1 (d := d) (by omega)) rfl rfl (Nat.le_of_ble_eq_true rfl) rfl rfl (Nat.zero_le _) (Nat.zero_le _) ?_
    refine aw_goto 88 dX6_put_83 (by decide) ?_
    refine aw_callVi [.int (nI a), .int (nI w), .long (psd w v)] [] (show Sp (fX6_takes (d - 1)) [.ref 0, .int (nI a), .int (nI w), .long (psd w v)] M (dt (some (.int (bz (tkB (kd4 M (psd w v)) a w (psd w v))))) (tkR M a w (psd w v))) by have q := sp_X6_takes (d := d - 1) (by omega) a w (psd w v) hT ha hw h13 hv; exact q) dX6_put_88 ml_X6_213 im_X6_takes (hT.s 0 (by decide)) (hT.n 0 (by decide)) rfl rfl (dl1 (d := d) (by omega)) rfl rfl (Nat.le_of_ble_eq_true rfl) rfl rfl (Nat.zero_le _) (Nat.zero_le _) ?_
    refine aw_if_ne 98 dX6_put_91 (by decide) (fun c10 => ?_) (fun c10 => absurd c10 (bz_n0.mpr h7))
    refine aw_iload dX6_put_98 0 rfl ?_
    refine aw_if_ge 110 dX6_put_100 (by decide) (fun c11 => ?_) (fun c11 => absurd (by rw [h4]; decide) c11)
    refine aw_aload_n dX6_put_110 1 rfl ?_
    refine aw_getR (b := 4) dX6_put_111 fl_X6_20 rfl (((sT_tkR M a w (psd w v)).TR hT).s 0 (by decide)) (((sT_tkR M a w (psd w v)).TR hT).n 0 (by decide)) (((sT_tkR M a w (psd w v)).TR hT).r 3) ?_
    refine aw_bipush (v := 12) dX6_put_114 (by decide) ?_
    refine aw_iload_n dX6_put_116 2 rfl ?_
    refine aw_imulN 12 t dX6_put_117 rfl rfl ?_
    refine aw_iload_n dX6_put_118 3 rfl ?_
    refine aw_iaddN (12 * t) p dX6_put_119 rfl rfl ?_
    refine aw_aload_n dX6_put_120 1 rfl ?_
    refine aw_getI dX6_put_121 fl_X6_121 (((sT_tkR M a w (psd w v)).TR hT).s 0 (by decide)) (((sT_tkR M a w (psd w v)).TR hT).n 0 (by decide)) ?_
    refine aw_topE (show mI (tkR M a w (psd w v)) 0 27 = nI (hwt a w) by rw [tkR_t h7]; exact (tkM_27 _ _ _).1) ?_
    refine aw_iastN ((12 * t) + p) dX6_put_124 (((sT_tkR M a w (psd w v)).TR hT).s 4 (by decide)) (((sT_tkR M a w (psd w v)).TR hT).n 4 (by decide)) rfl (by omega) (by first | decide | omega) ?_
    refine aw_aload_n dX6_put_125 1 rfl ?_
    refine aw_getR (b := 5) dX6_put_126 fl_X6_23 rfl (((sT_tkR M a w (psd w v)).TR hT).s 0 (by decide)) (((sT_tkR M a w (psd w v)).TR hT).n 0 (by decide)) (((sT_tkR M a w (psd w v)).TR hT).r 4) ?_
    refine aw_bipush (v := 12) dX6_put_129 (by decide) ?_
    refine aw_iload_n dX6_put_131 2 rfl ?_
    refine aw_imulN 12 t dX6_put_132 rfl rfl ?_
    refine aw_iload_n dX6_put_133 3 rfl ?_
    refine aw_iaddN (12 * t) p dX6_put_134 rfl rfl ?_
    refine aw_aload_n dX6_put_135 1 rfl ?_
    refine aw_getL dX6_put_136 fl_X6_124 (((sT_tkR M a w (psd w v)).TR hT).s 0 (by decide)) (((sT_tkR M a w (psd w v)).TR hT).n 0 (by decide)) ?_
    refine aw_toplE (show _ = hvl a w (psd w v) from ?_) ?_
    · rw [mL_stI_c, tkR_t h7]; exact (tkM_27 _ _ _).2
    refine aw_lastN ((12 * t) + p) dX6_put_139 (((sT_tkR M a w (psd w v)).TR hT).s 5 (by decide)) (((sT_tkR M a w (psd w v)).TR hT).n 5 (by decide)) rfl (by omega) (by first | decide | omega) ?_
    refine aw_iconst (v := 0) dX6_put_140 (by decide) ?_
    refine aw_iret dX6_put_141 rfl (Nat.zero_le _) (Nat.zero_le _) ?_
    exact ⟨rfl, (by rw [tkR_t h7]; rfl)⟩
