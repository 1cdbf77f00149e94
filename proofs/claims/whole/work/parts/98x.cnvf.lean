-- CONVERT
theorem sp_X5_conv_bad {d : Nat} (hd : 7 ≤ d) {M : xM} (x1 x2 : Int32) (hT : TC M) (h : x2 < 0 ∨ (¬ x2 < 0 ∧ ¬ x2 ≤ 13)) : Sp (fX5_convert d) [.ref 0, .int x1, .int x2] M (dt (some (.int (-1))) (tX5_report M (-1) (-1))) := by
  refine Sp.of pn_X5 (Nat.le_of_ble_eq_true rfl) (fun h => Bool.noConfusion h) ?_
  rcases h with h | ⟨h, h2⟩
  · refine aw_iload_n dX5_convert_0 2 rfl ?_
    refine aw_if_lt 10 dX5_convert_1 (by decide) (fun c1 => ?_) (fun c1 => absurd h c1)
    refine aw_iconst (v := -1) dX5_convert_10 (by decide) ?_
    refine aw_goto 19 dX5_convert_11 (by decide) ?_
    refine aw_istore_n [(3, .int (-1)), (0, .ref 0), (1, .int x1), (2, .int x2)] dX5_convert_19 (Nat.le_of_ble_eq_true rfl) rfl ?_
    refine aw_iload_n dX5_convert_20 0 rfl ?_
    refine aw_if_eq 33 dX5_convert_21 (by decide) (fun c2 => absurd c2 (by decide)) (fun c2 => ?_)
    refine aw_aload_n dX5_convert_24 1 rfl ?_
    refine aw_iload_n dX5_convert_25 0 rfl ?_
    refine aw_iconst (v := -1) dX5_convert_26 (by decide) ?_
    refine aw_callVi [.int (-1), .int (-1)] [] (sp_X5_report (d := d - 1) (by omega) (-1) (-1) hT) dX5_convert_27 ml_X5_138 im_X5_report (hT.s 0 (by decide)) (hT.n 0 (by decide)) rfl rfl (dl1 (d := d) (by omega)) rfl rfl (Nat.le_of_ble_eq_true rfl) rfl rfl (Nat.zero_le _) (Nat.zero_le _) ?_
    refine aw_goto 44 dX5_convert_30 (by decide) ?_
    refine aw_iret dX5_convert_44 rfl (Nat.zero_le _) (Nat.zero_le _) ?_
    exact ⟨rfl, rfl⟩
  · refine aw_iload_n dX5_convert_0 2 rfl ?_
    refine aw_if_lt 10 dX5_convert_1 (by decide) (fun c1 => absurd c1 h) (fun c1 => ?_)
    refine aw_iload_n dX5_convert_4 2 rfl ?_
    refine aw_bipush (v := 13) dX5_convert_5 (by decide) ?_
    refine aw_icmp_le 14 dX5_convert_7 (by decide) (fun c2 => absurd c2 h2) (fun c2 => ?_)
    refine aw_iconst (v := -1) dX5_convert_10 (by decide) ?_
    refine aw_goto 19 dX5_convert_11 (by decide) ?_
    refine aw_istore_n [(3, .int (-1)), (0, .ref 0), (1, .int x1), (2, .int x2)] dX5_convert_19 (Nat.le_of_ble_eq_true rfl) rfl ?_
    refine aw_iload_n dX5_convert_20 0 rfl ?_
    refine aw_if_eq 33 dX5_convert_21 (by decide) (fun c3 => absurd c3 (by decide)) (fun c3 => ?_)
    refine aw_aload_n dX5_convert_24 1 rfl ?_
    refine aw_iload_n dX5_convert_25 0 rfl ?_
    refine aw_iconst (v := -1) dX5_convert_26 (by decide) ?_
    refine aw_callVi [.int (-1), .int (-1)] [] (sp_X5_report (d := d - 1) (by omega) (-1) (-1) hT) dX5_convert_27 ml_X5_138 im_X5_report (hT.s 0 (by decide)) (hT.n 0 (by decide)) rfl rfl (dl1 (d := d) (by omega)) rfl rfl (Nat.le_of_ble_eq_true rfl) rfl rfl (Nat.zero_le _) (Nat.zero_le _) ?_
    refine aw_goto 44 dX5_convert_30 (by decide) ?_
    refine aw_iret dX5_convert_44 rfl (Nat.zero_le _) (Nat.zero_le _) ?_
    exact ⟨rfl, rfl⟩
theorem sp_X5_conv_e {d : Nat} (hd : 7 ≤ d) {M : xM} (x1 x2 : Int32) (hT : TC M) (h : ¬ x2 < 0) (h2 : x2 ≤ 13) (he : ¬ sX5_arrayError M x1 = 0) : Sp (fX5_convert d) [.ref 0, .int x1, .int x2] M (dt (some (.int (sX5_arrayError M x1))) (tX5_report M (sX5_arrayError M x1) (-1))) := by
  refine Sp.of pn_X5 (Nat.le_of_ble_eq_true rfl) (fun h => Bool.noConfusion h) ?_
  refine aw_iload_n dX5_convert_0 2 rfl ?_
  refine aw_if_lt 10 dX5_convert_1 (by decide) (fun c1 => absurd c1 h) (fun c1 => ?_)
  refine aw_iload_n dX5_convert_4 2 rfl ?_
  refine aw_bipush (v := 13) dX5_convert_5 (by decide) ?_
  refine aw_icmp_le 14 dX5_convert_7 (by decide) (fun c2 => ?_) (fun c2 => absurd h2 c2)
  refine aw_aload_n dX5_convert_14 0 rfl ?_
  refine aw_iload_n dX5_convert_15 1 rfl ?_
  refine aw_callVi [.int x1] [] (sp_X5_arrayError (d := d - 1) (by omega) x1 hT) dX5_convert_16 ml_X5_101 im_X5_arrayError (hT.s 0 (by decide)) (hT.n 0 (by decide)) rfl rfl (dl1 (d := d) (by omega)) rfl rfl (Nat.le_of_ble_eq_true rfl) rfl rfl (Nat.zero_le _) (Nat.zero_le _) ?_
  refine aw_istore_n [(3, .int (sX5_arrayError M x1)), (0, .ref 0), (1, .int x1), (2, .int x2)] dX5_convert_19 (Nat.le_of_ble_eq_true rfl) rfl ?_
  refine aw_iload_n dX5_convert_20 0 rfl ?_
  refine aw_if_eq 33 dX5_convert_21 (by decide) (fun c3 => absurd c3 he) (fun c3 => ?_)
  refine aw_aload_n dX5_convert_24 1 rfl ?_
  refine aw_iload_n dX5_convert_25 0 rfl ?_
  refine aw_iconst (v := -1) dX5_convert_26 (by decide) ?_
  refine aw_callVi [.int (sX5_arrayError M x1), .int (-1)] [] (sp_X5_report (d := d - 1) (by omega) (sX5_arrayError M x1) (-1) hT) dX5_convert_27 ml_X5_138 im_X5_report (hT.s 0 (by decide)) (hT.n 0 (by decide)) rfl rfl (dl1 (d := d) (by omega)) rfl rfl (Nat.le_of_ble_eq_true rfl) rfl rfl (Nat.zero_le _) (Nat.zero_le _) ?_
  refine aw_goto 44 dX5_convert_30 (by decide) ?_
  refine aw_iret dX5_convert_44 rfl (Nat.zero_le _) (Nat.zero_le _) ?_
  exact ⟨rfl, rfl⟩
theorem sp_X5_conv_go {d : Nat} (hd : 7 ≤ d) {M M' : xM} (t b : Nat) (hT : TC M) (ht : t < 12) (hb : b < 14) (he : sX5_arrayError M (nI t) = 0) {r : Int32} (hs : Sp (fX5_keepConverted (d - 1)) [.ref 0, .ref (54 + 3 * t), .int (nI b)] M (dt (some (.int r)) M')) : Sp (fX5_convert d) [.ref 0, .int (nI t), .int (nI b)] M (dt (some (.int r)) M') := by
  refine Sp.of pn_X5 (Nat.le_of_ble_eq_true rfl) (fun h => Bool.noConfusion h) ?_
  have n0 : ¬ nI b < 0 := (by decide : ∀ b, b < 14 → ¬ nI b < 0) b hb
  refine aw_iload_n dX5_convert_0 2 rfl ?_
  refine aw_if_lt 10 dX5_convert_1 (by decide) (fun c1 => absurd c1 n0) (fun c1 => ?_)
  refine aw_iload_n dX5_convert_4 2 rfl ?_
  refine aw_bipush (v := 13) dX5_convert_5 (by decide) ?_
  refine aw_icmp_leN b 13 14 dX5_convert_7 (by decide) rfl rfl (by omega) (by omega) (fun c2 => ?_) (fun c2 => absurd (by omega) c2)
  refine aw_aload_n dX5_convert_14 0 rfl ?_
  refine aw_iload_n dX5_convert_15 1 rfl ?_
  refine aw_callVi [.int (nI t)] [] (sp_X5_arrayError (d := d - 1) (by omega) (nI t) hT) dX5_convert_16 ml_X5_101 im_X5_arrayError (hT.s 0 (by decide)) (hT.n 0 (by decide)) rfl rfl (dl1 (d := d) (by omega)) rfl rfl (Nat.le_of_ble_eq_true rfl) rfl rfl (Nat.zero_le _) (Nat.zero_le _) ?_
  refine aw_topE he ?_
  refine aw_istore_n [(3, .int 0), (0, .ref 0), (1, .int (nI t)), (2, .int (nI b))] dX5_convert_19 (Nat.le_of_ble_eq_true rfl) rfl ?_
  refine aw_iload_n dX5_convert_20 0 rfl ?_
  refine aw_if_eq 33 dX5_convert_21 (by decide) (fun c3 => ?_) (fun c3 => absurd rfl c3)
  refine aw_aload_n dX5_convert_33 1 rfl ?_
  refine aw_aload_n dX5_convert_34 1 rfl ?_
  refine aw_getR (b := 1) dX5_convert_35 fl_X5_11 rfl (hT.s 0 (by decide)) (hT.n 0 (by decide)) (hT.r 0 0 (by decide) (by decide)) ?_
  refine aw_iload_n dX5_convert_38 2 rfl ?_
  refine aw_aaldN t (54 + 3 * t) dX5_convert_39 (hT.s 1 (by decide)) (hT.n 1 (by decide)) rfl (by omega) (by first | decide | omega) (hT.slot (by omega)) ?_
  refine aw_iload_n dX5_convert_40 3 rfl ?_
  refine aw_callVi [.ref (54 + 3 * t), .int (nI b)] [] hs dX5_convert_41 ml_X5_186 im_X5_keepConverted (hT.s 0 (by decide)) (hT.n 0 (by decide)) rfl rfl (dl1 (d := d) (by omega)) rfl rfl (Nat.le_of_ble_eq_true rfl) rfl rfl (Nat.zero_le _) (Nat.zero_le _) ?_
  refine aw_iret dX5_convert_44 rfl (Nat.zero_le _) (Nat.zero_le _) ?_
  exact ⟨rfl, rfl⟩
theorem sp_X6_conv_bad {d : Nat} (hd : 5 ≤ d) {M : xM} (x1 x2 : Int32) (hT : TR M) (h : sX6_isThing x1.toInt64 = false ∨ (sX6_isThing x1.toInt64 = true ∧ sX6_isIn x2.toInt64 0 13 = false)) : Sp (fX6_convert d) [.ref 0, .int x1, .int x2] M (dt (some (.int (-1))) (tX6_tells M (-1) (-1))) := by
  refine Sp.of pn_X6 (Nat.le_of_ble_eq_true rfl) (fun h => Bool.noConfusion h) ?_
  rcases h with h | ⟨h, h2⟩
  · refine aw_iload_n dX6_convert_0 1 rfl ?_
    refine aw_i2l dX6_convert_1 ?_
    refine aw_callSi [.long (Int32.toInt64 x1)] [] (sp_X6_isThing (d := d - 1) (by omega) (Int32.toInt64 x1) ) dX6_convert_2 ml_X6_159 sm_X6_isThing rfl (dl1 (d := d) (by omega)) rfl rfl (Nat.le_of_ble_eq_true rfl) rfl rfl (Nat.zero_le _) (Nat.zero_le _) ?_
    refine aw_if_eq 20 dX6_convert_5 (by decide) (fun c1 => ?_) (fun c1 => absurd (bz_0.mpr h) c1)
    refine aw_aload_n dX6_convert_20 0 rfl ?_
    refine aw_iconst (v := -1) dX6_convert_21 (by decide) ?_
    refine aw_iconst (v := -1) dX6_convert_22 (by decide) ?_
    refine aw_callVi [.int (-1), .int (-1)] [] (sp_X6_tells (d := d - 1) (by omega) (-1) (-1) hT) dX6_convert_23 ml_X6_192 im_X6_tells (hT.s 0 (by decide)) (hT.n 0 (by decide)) rfl rfl (dl1 (d := d) (by omega)) rfl rfl (Nat.le_of_ble_eq_true rfl) rfl rfl (Nat.zero_le _) (Nat.zero_le _) ?_
    refine aw_iret dX6_convert_26 rfl (Nat.zero_le _) (Nat.zero_le _) ?_
    exact ⟨rfl, rfl⟩
  · refine aw_iload_n dX6_convert_0 1 rfl ?_
    refine aw_i2l dX6_convert_1 ?_
    refine aw_callSi [.long (Int32.toInt64 x1)] [] (sp_X6_isThing (d := d - 1) (by omega) (Int32.toInt64 x1) ) dX6_convert_2 ml_X6_159 sm_X6_isThing rfl (dl1 (d := d) (by omega)) rfl rfl (Nat.le_of_ble_eq_true rfl) rfl rfl (Nat.zero_le _) (Nat.zero_le _) ?_
    refine aw_if_eq 20 dX6_convert_5 (by decide) (fun c1 => absurd c1 (bz_n0.mpr h)) (fun c1 => ?_)
    refine aw_iload_n dX6_convert_8 2 rfl ?_
    refine aw_i2l dX6_convert_9 ?_
    refine aw_lconst (v := 0) dX6_convert_10 (by decide) ?_
    refine aw_ldc2 dX6_convert_11 kc_X6_141 ?_
    refine aw_callSi [.long (Int32.toInt64 x2), .long 0, .long 13] [] (sp_X6_isIn (d := d - 1) (by omega) (Int32.toInt64 x2) 0 13 ) dX6_convert_14 ml_X6_73 sm_X6_isIn rfl (dl1 (d := d) (by omega)) rfl rfl (Nat.le_of_ble_eq_true rfl) rfl rfl (Nat.zero_le _) (Nat.zero_le _) ?_
    refine aw_if_ne 27 dX6_convert_17 (by decide) (fun c2 => absurd (bz_0.mpr h2) c2) (fun c2 => ?_)
    refine aw_aload_n dX6_convert_20 0 rfl ?_
    refine aw_iconst (v := -1) dX6_convert_21 (by decide) ?_
    refine aw_iconst (v := -1) dX6_convert_22 (by decide) ?_
    refine aw_callVi [.int (-1), .int (-1)] [] (sp_X6_tells (d := d - 1) (by omega) (-1) (-1) hT) dX6_convert_23 ml_X6_192 im_X6_tells (hT.s 0 (by decide)) (hT.n 0 (by decide)) rfl rfl (dl1 (d := d) (by omega)) rfl rfl (Nat.le_of_ble_eq_true rfl) rfl rfl (Nat.zero_le _) (Nat.zero_le _) ?_
    refine aw_iret dX6_convert_26 rfl (Nat.zero_le _) (Nat.zero_le _) ?_
    exact ⟨rfl, rfl⟩
theorem sp_X6_conv_r {d : Nat} (hd : 5 ≤ d) {M : xM} (x1 x2 : Int32) (hT : TR M) (h : sX6_isThing x1.toInt64 = true) (h2 : sX6_isIn x2.toInt64 0 13 = true) (h3 : sX6_refusal M x1 < 0) : Sp (fX6_convert d) [.ref 0, .int x1, .int x2] M (dt (some (.int (sX6_refusal M x1))) (tX6_tells M (sX6_refusal M x1) (-1))) := by
  refine Sp.of pn_X6 (Nat.le_of_ble_eq_true rfl) (fun h => Bool.noConfusion h) ?_
  refine aw_iload_n dX6_convert_0 1 rfl ?_
  refine aw_i2l dX6_convert_1 ?_
  refine aw_callSi [.long (Int32.toInt64 x1)] [] (sp_X6_isThing (d := d - 1) (by omega) (Int32.toInt64 x1) ) dX6_convert_2 ml_X6_159 sm_X6_isThing rfl (dl1 (d := d) (by omega)) rfl rfl (Nat.le_of_ble_eq_true rfl) rfl rfl (Nat.zero_le _) (Nat.zero_le _) ?_
  refine aw_if_eq 20 dX6_convert_5 (by decide) (fun c1 => absurd c1 (bz_n0.mpr h)) (fun c1 => ?_)
  refine aw_iload_n dX6_convert_8 2 rfl ?_
  refine aw_i2l dX6_convert_9 ?_
  refine aw_lconst (v := 0) dX6_convert_10 (by decide) ?_
  refine aw_ldc2 dX6_convert_11 kc_X6_141 ?_
  refine aw_callSi [.long (Int32.toInt64 x2), .long 0, .long 13] [] (sp_X6_isIn (d := d - 1) (by omega) (Int32.toInt64 x2) 0 13 ) dX6_convert_14 ml_X6_73 sm_X6_isIn rfl (dl1 (d := d) (by omega)) rfl rfl (Nat.le_of_ble_eq_true rfl) rfl rfl (Nat.zero_le _) (Nat.zero_le _) ?_
  refine aw_if_ne 27 dX6_convert_17 (by decide) (fun c2 => ?_) (fun c2 => absurd c2 (bz_n0.mpr h2))
  refine aw_aload_n dX6_convert_27 0 rfl ?_
  refine aw_iload_n dX6_convert_28 1 rfl ?_
  refine aw_callVi [.int x1] [] (sp_X6_refusal (d := d - 1) (by omega) x1 hT (thing_vp c1)) dX6_convert_29 ml_X6_162 im_X6_refusal (hT.s 0 (by decide)) (hT.n 0 (by decide)) rfl rfl (dl1 (d := d) (by omega)) rfl rfl (Nat.le_of_ble_eq_true rfl) rfl rfl (Nat.zero_le _) (Nat.zero_le _) ?_
  refine aw_istore_n [(3, .int (sX6_refusal M x1)), (0, .ref 0), (1, .int x1), (2, .int x2)] dX6_convert_32 (Nat.le_of_ble_eq_true rfl) rfl ?_
  refine aw_iload_n dX6_convert_33 0 rfl ?_
  refine aw_if_ge 44 dX6_convert_34 (by decide) (fun c3 => absurd h3 (Int32.not_lt.mpr c3)) (fun c3 => ?_)
  refine aw_aload_n dX6_convert_37 1 rfl ?_
  refine aw_iload_n dX6_convert_38 0 rfl ?_
  refine aw_iconst (v := -1) dX6_convert_39 (by decide) ?_
  refine aw_callVi [.int (sX6_refusal M x1), .int (-1)] [] (sp_X6_tells (d := d - 1) (by omega) (sX6_refusal M x1) (-1) hT) dX6_convert_40 ml_X6_192 im_X6_tells (hT.s 0 (by decide)) (hT.n 0 (by decide)) rfl rfl (dl1 (d := d) (by omega)) rfl rfl (Nat.le_of_ble_eq_true rfl) rfl rfl (Nat.zero_le _) (Nat.zero_le _) ?_
  refine aw_iret dX6_convert_43 rfl (Nat.zero_le _) (Nat.zero_le _) ?_
  exact ⟨rfl, rfl⟩
theorem sp_X6_conv_k {d : Nat} (hd : 5 ≤ d) {M : xM} (t b z : Nat) (W : Nat → Nat) (V : Nat → Int64) (h0 : sX6_isThing (lN t) = true) (h2 : sX6_isIn (lN b) 0 13 = true) (h3 : sX6_refusal M (nI t) = 0) (hT : TR M) (ht : t < 12) (hz : mI M 2 t = nI z) (hz2 : z ≤ 12) (hW : ∀ k, k < z → mI M 4 (12 * t + k) = nI (W k)) (hV : ∀ k, k < z → mL M 5 (12 * t + k) = V k) (hb : b < 14) (hw : ∀ k, k < z → W k < 12) (h13 : ∀ k, k < z → b = 13 → W k = 10 → vp_in (V k).toInt32 24) (h6 : ∀ k, k < z → W k = 6 → okF 6 (V k)) (m : Nat) (hm : m < z) (hf : tkB (kd4 M (V m)) b (W m) (V m) = false) (h : ∀ k, k < m → tkB (kd4 M (V k)) b (W k) (V k) = true) : Sp (fX6_convert d) [.ref 0, .int (nI t), .int (nI b)] M (fun r M' => r = some (.int (-9)) ∧ ∃ x y, M' = tX6_tells (tkM M x y) (-9) (nI m)) := by
  refine Sp.of pn_X6 (Nat.le_of_ble_eq_true rfl) (fun h => Bool.noConfusion h) ?_
  refine aw_iload_n dX6_convert_0 1 rfl ?_
  refine aw_i2lN t dX6_convert_1 rfl (by omega) ?_
  refine aw_callSi [.long (lN t)] [] (sp_X6_isThing (d := d - 1) (by omega) (lN t) ) dX6_convert_2 ml_X6_159 sm_X6_isThing rfl (dl1 (d := d) (by omega)) rfl rfl (Nat.le_of_ble_eq_true rfl) rfl rfl (Nat.zero_le _) (Nat.zero_le _) ?_
  refine aw_if_eq 20 dX6_convert_5 (by decide) (fun c1 => absurd c1 (bz_n0.mpr h0)) (fun c1 => ?_)
  refine aw_iload_n dX6_convert_8 2 rfl ?_
  refine aw_i2lN b dX6_convert_9 rfl (by omega) ?_
  refine aw_lconst (v := 0) dX6_convert_10 (by decide) ?_
  refine aw_ldc2 dX6_convert_11 kc_X6_141 ?_
  refine aw_callSi [.long (lN b), .long 0, .long 13] [] (sp_X6_isIn (d := d - 1) (by omega) (lN b) 0 13 ) dX6_convert_14 ml_X6_73 sm_X6_isIn rfl (dl1 (d := d) (by omega)) rfl rfl (Nat.le_of_ble_eq_true rfl) rfl rfl (Nat.zero_le _) (Nat.zero_le _) ?_
  refine aw_if_ne 27 dX6_convert_17 (by decide) (fun c2 => ?_) (fun c2 => absurd c2 (bz_n0.mpr h2))
  refine aw_aload_n dX6_convert_27 0 rfl ?_
  refine aw_iload_n dX6_convert_28 1 rfl ?_
  refine aw_callVi [.int (nI t)] [] (sp_X6_refusal (d := d - 1) (by omega) (nI t) hT (vp_in_nI (by omega) (by decide))) dX6_convert_29 ml_X6_162 im_X6_refusal (hT.s 0 (by decide)) (hT.n 0 (by decide)) rfl rfl (dl1 (d := d) (by omega)) rfl rfl (Nat.le_of_ble_eq_true rfl) rfl rfl (Nat.zero_le _) (Nat.zero_le _) ?_
  refine aw_topE h3 ?_
  refine aw_istore_n [(3, .int 0), (0, .ref 0), (1, .int (nI t)), (2, .int (nI b))] dX6_convert_32 (Nat.le_of_ble_eq_true rfl) rfl ?_
  refine aw_iload_n dX6_convert_33 0 rfl ?_
  refine aw_if_ge 44 dX6_convert_34 (by decide) (fun c3 => ?_) (fun c3 => absurd (by decide) c3)
  refine aw_aload_n dX6_convert_44 1 rfl ?_
  refine aw_iload_n dX6_convert_45 2 rfl ?_
  refine aw_iload_n dX6_convert_46 3 rfl ?_
  refine aw_callVx [.int (nI t), .int (nI b)] [] (sp_fr_ref (d := d - 1) (by omega) b z W V hT (show t < 24 by omega) hz hz2 hW hV hb hw h13 h6 m hm hf h) dX6_convert_47 ml_X6_220 im_X6_firstRefused (hT.s 0 (by decide)) (hT.n 0 (by decide)) rfl rfl (dl1 (d := d) (by omega)) rfl rfl (Nat.le_of_ble_eq_true rfl) rfl rfl (Nat.zero_le _) (Nat.zero_le _) (fun r M1 hq => ?_)
  obtain ⟨rfl, x, y, rfl⟩ := hq
  refine aw_cons ?_
  refine aw_istore [(4, .int (nI m)), (3, .int 0), (0, .ref 0), (1, .int (nI t)), (2, .int (nI b))] dX6_convert_50 (Nat.le_of_ble_eq_true rfl) rfl ?_
  refine aw_iload dX6_convert_52 0 rfl ?_
  refine aw_if_lt 66 dX6_convert_54 (by decide) (fun c4 => absurd c4 ((by decide : ∀ m, m < 12 → ¬ nI m < 0) m (by omega))) (fun c4 => ?_)
  refine aw_aload_n dX6_convert_57 2 rfl ?_
  refine aw_bipush (v := -9) dX6_convert_58 (by decide) ?_
  refine aw_iload dX6_convert_60 0 rfl ?_
  refine aw_callVi [.int (-9), .int (nI m)] [] (sp_X6_tells (d := d - 1) (by omega) (-9) (nI m) ((sT_tkM M x y).TR hT)) dX6_convert_62 ml_X6_192 im_X6_tells (((sT_tkM M x y).TR hT).s 0 (by decide)) (((sT_tkM M x y).TR hT).n 0 (by decide)) rfl rfl (dl1 (d := d) (by omega)) rfl rfl (Nat.le_of_ble_eq_true rfl) rfl rfl (Nat.zero_le _) (Nat.zero_le _) ?_
  refine aw_iret dX6_convert_65 rfl (Nat.zero_le _) (Nat.zero_le _) ?_
  exact ⟨rfl, x, y, rfl⟩
theorem sp_X6_conv_f {d : Nat} (hd : 5 ≤ d) {M : xM} (t b z : Nat) (W : Nat → Nat) (V : Nat → Int64) (h0 : sX6_isThing (lN t) = true) (h2 : sX6_isIn (lN b) 0 13 = true) (h3 : sX6_refusal M (nI t) = 0) (hT : TR M) (ht : t < 12) (hz : mI M 2 t = nI z) (hz2 : z ≤ 12) (hW : ∀ k, k < z → mI M 4 (12 * t + k) = nI (W k)) (hV : ∀ k, k < z → mL M 5 (12 * t + k) = V k) (hb : b < 14) (hw : ∀ k, k < z → W k < 12) (h13 : ∀ k, k < z → b = 13 → W k = 10 → vp_in (V k).toInt32 24) (h6 : ∀ k, k < z → W k = 6 → okF 6 (V k)) (h : ∀ k, k < z → tkB (kd4 M (V k)) b (W k) (V k) = true) (hl : sX6_free M = -1) : Sp (fX6_convert d) [.ref 0, .int (nI t), .int (nI b)] M (fun r M' => r = some (.int (-3)) ∧ ∃ x y, M' = tX6_tells (tkM M x y) (-3) (-1)) := by
  refine Sp.of pn_X6 (Nat.le_of_ble_eq_true rfl) (fun h => Bool.noConfusion h) ?_
  refine aw_iload_n dX6_convert_0 1 rfl ?_
  refine aw_i2lN t dX6_convert_1 rfl (by omega) ?_
  refine aw_callSi [.long (lN t)] [] (sp_X6_isThing (d := d - 1) (by omega) (lN t) ) dX6_convert_2 ml_X6_159 sm_X6_isThing rfl (dl1 (d := d) (by omega)) rfl rfl (Nat.le_of_ble_eq_true rfl) rfl rfl (Nat.zero_le _) (Nat.zero_le _) ?_
  refine aw_if_eq 20 dX6_convert_5 (by decide) (fun c1 => absurd c1 (bz_n0.mpr h0)) (fun c1 => ?_)
  refine aw_iload_n dX6_convert_8 2 rfl ?_
  refine aw_i2lN b dX6_convert_9 rfl (by omega) ?_
  refine aw_lconst (v := 0) dX6_convert_10 (by decide) ?_
  refine aw_ldc2 dX6_convert_11 kc_X6_141 ?_
  refine aw_callSi [.long (lN b), .long 0, .long 13] [] (sp_X6_isIn (d := d - 1) (by omega) (lN b) 0 13 ) dX6_convert_14 ml_X6_73 sm_X6_isIn rfl (dl1 (d := d) (by omega)) rfl rfl (Nat.le_of_ble_eq_true rfl) rfl rfl (Nat.zero_le _) (Nat.zero_le _) ?_
  refine aw_if_ne 27 dX6_convert_17 (by decide) (fun c2 => ?_) (fun c2 => absurd c2 (bz_n0.mpr h2))
  refine aw_aload_n dX6_convert_27 0 rfl ?_
  refine aw_iload_n dX6_convert_28 1 rfl ?_
  refine aw_callVi [.int (nI t)] [] (sp_X6_refusal (d := d - 1) (by omega) (nI t) hT (vp_in_nI (by omega) (by decide))) dX6_convert_29 ml_X6_162 im_X6_refusal (hT.s 0 (by decide)) (hT.n 0 (by decide)) rfl rfl (dl1 (d := d) (by omega)) rfl rfl (Nat.le_of_ble_eq_true rfl) rfl rfl (Nat.zero_le _) (Nat.zero_le _) ?_
  refine aw_topE h3 ?_
  refine aw_istore_n [(3, .int 0), (0, .ref 0), (1, .int (nI t)), (2, .int (nI b))] dX6_convert_32 (Nat.le_of_ble_eq_true rfl) rfl ?_
  refine aw_iload_n dX6_convert_33 0 rfl ?_
  refine aw_if_ge 44 dX6_convert_34 (by decide) (fun c3 => ?_) (fun c3 => absurd (by decide) c3)
  refine aw_aload_n dX6_convert_44 1 rfl ?_
  refine aw_iload_n dX6_convert_45 2 rfl ?_
  refine aw_iload_n dX6_convert_46 3 rfl ?_
  refine aw_callVx [.int (nI t), .int (nI b)] [] (sp_fr_all (d := d - 1) (by omega) b z W V hT (show t < 24 by omega) hz hz2 hW hV hb hw h13 h6 h) dX6_convert_47 ml_X6_220 im_X6_firstRefused (hT.s 0 (by decide)) (hT.n 0 (by decide)) rfl rfl (dl1 (d := d) (by omega)) rfl rfl (Nat.le_of_ble_eq_true rfl) rfl rfl (Nat.zero_le _) (Nat.zero_le _) (fun r M1 hq => ?_)
  obtain ⟨rfl, x, y, rfl⟩ := hq
  refine aw_cons ?_
  refine aw_istore [(4, .int (-1)), (3, .int 0), (0, .ref 0), (1, .int (nI t)), (2, .int (nI b))] dX6_convert_50 (Nat.le_of_ble_eq_true rfl) rfl ?_
  refine aw_iload dX6_convert_52 0 rfl ?_
  refine aw_if_lt 66 dX6_convert_54 (by decide) (fun c4 => ?_) (fun c4 => absurd (by decide) c4)
  refine aw_aload_n dX6_convert_66 2 rfl ?_
  refine aw_callVi [] [] (sp_X6_free (d := d - 1) (by omega) ((sT_tkM M x y).TR hT)) dX6_convert_67 ml_X6_151 im_X6_free (((sT_tkM M x y).TR hT).s 0 (by decide)) (((sT_tkM M x y).TR hT).n 0 (by decide)) rfl rfl (dl1 (d := d) (by omega)) rfl rfl (Nat.le_of_ble_eq_true rfl) rfl rfl (Nat.zero_le _) (Nat.zero_le _) ?_
  refine aw_topE (show sX6_free (tkM M x y) = _ from hl) ?_
  refine aw_if_ge 83 dX6_convert_70 (by decide) (fun c5 => absurd c5 (by decide)) (fun c5 => ?_)
  refine aw_aload_n dX6_convert_73 2 rfl ?_
  refine aw_bipush (v := -3) dX6_convert_74 (by decide) ?_
  refine aw_iconst (v := -1) dX6_convert_76 (by decide) ?_
  refine aw_callVi [.int (-3), .int (-1)] [] (sp_X6_tells (d := d - 1) (by omega) (-3) (-1) ((sT_tkM M x y).TR hT)) dX6_convert_77 ml_X6_192 im_X6_tells (((sT_tkM M x y).TR hT).s 0 (by decide)) (((sT_tkM M x y).TR hT).n 0 (by decide)) rfl rfl (dl1 (d := d) (by omega)) rfl rfl (Nat.le_of_ble_eq_true rfl) rfl rfl (Nat.zero_le _) (Nat.zero_le _) ?_
  refine aw_goto 89 dX6_convert_80 (by decide) ?_
  refine aw_iret dX6_convert_89 rfl (Nat.zero_le _) (Nat.zero_le _) ?_
  exact ⟨rfl, x, y, rfl⟩
theorem free_tk (M : xM) (x : Int32) (y : Int64) : sX6_free (tkM M x y) = sX6_free M := by
  unfold sX6_free rEmp
  rw [tkM_I _ _ _ (by decide)]
theorem xup_comm {α : Type} (f : Nat → Nat → α) {a b : Nat} (h : a ≠ b) (k j : Nat) (v w : α) : xup (xup f a k v) b j w = xup (xup f b j w) a k v := by
  funext p q
  unfold xup
  by_cases c : p = a
  · subst c; simp [h]
  · simp [c]
theorem xfl_xup {α : Type} (f : Nat → Nat → α) {a b : Nat} (h : a ≠ b) (lo n : Nat) (g : Nat → α) (k : Nat) (v : α) : xfl (xup f b k v) a lo n g = xup (xfl f a lo n g) b k v := by
  funext p q
  unfold xfl xup
  by_cases c : p = a
  · subst c; simp [h]
  · simp [c]
theorem beg_tk (M : xM) (x : Int32) (y : Int64) (f : Nat) (p q : Int32) : begM (tkM M x y) f p q = tkM (begM M f p q) x y := by
  have e1 : xfl (xup (xup (xup M.1 0 27 x) 1 f p) 2 f q) 4 (12 * f) 12 (fun _ => rFl p) = xup (xfl (xup (xup M.1 1 f p) 2 f q) 4 (12 * f) 12 (fun _ => rFl p)) 0 27 x := by
    rw [xup_comm M.1 (show 0 ≠ 1 by decide), xup_comm _ (show 0 ≠ 2 by decide), xfl_xup _ (by decide)]
  have e2 : xfl (xup (xup M.2.1 0 28 y) 3 f 0) 5 (12 * f) 12 (fun _ => (0 : Int64)) = xup (xfl (xup M.2.1 3 f 0) 5 (12 * f) 12 (fun _ => (0 : Int64))) 0 28 y := by
    rw [xup_comm M.2.1 (show 0 ≠ 3 by decide), xfl_xup _ (by decide)]
  exact Prod.ext e1 (Prod.ext e2 rfl)
theorem cvY_tk (M : xM) (x : Int32) (y : Int64) (f b z : Nat) (W : Nat → Nat) (V : Nat → Int64) (i : Nat) : cvY (tkM M x y) f b z W V i = tkM (cvY M f b z W V i) x y := by
  unfold cvY
  rw [beg_tk]
  generalize begM M f (nI b) (nI z) = X
  have e1 : xfl (xup X.1 0 27 x) 4 (12 * f) i (fun k => nI (hwt b (W k))) = xup (xfl X.1 4 (12 * f) i (fun k => nI (hwt b (W k)))) 0 27 x := xfl_xup _ (by decide) _ _ _ _ _
  have e2 : xfl (xup X.2.1 0 28 y) 5 (12 * f) i (fun k => hvl b (W k) (V k)) = xup (xfl X.2.1 5 (12 * f) i (fun k => hvl b (W k) (V k))) 0 28 y := xfl_xup _ (by decide) _ _ _ _ _
  exact Prod.ext e1 (Prod.ext e2 rfl)
theorem kd4_cvY {M : xM} {f z j : Nat} {W : Nat → Nat} {V : Nat → Int64} (h : mI M 1 f = -1) (v : Int64) : kd4 (cvY M f 13 z W V j) v = kd4 M v := by
  unfold kd4
  rw [(cvY_1 M f 13 z W V j _).1]
  by_cases c : v.toInt32.toNatClampNeg = f
  · rw [if_pos c, c, h]; decide
  · rw [if_neg c]
/-- converted, from a memory with any scratch -/
theorem sp_convS {d : Nat} (hd : 4 ≤ d) {M : xM} (x0 : Int32) (y0 : Int64) {t : Nat} (b z f : Nat) (W : Nat → Nat) (V : Nat → Int64) (hT : TR M) (ht : t < 24) (hz : mI M 2 t = nI z) (hz2 : z ≤ 12) (hW : ∀ k, k < z → mI M 4 (12 * t + k) = nI (W k)) (hV : ∀ k, k < z → mL M 5 (12 * t + k) = V k) (hb : b < 14) (hw : ∀ k, k < z → W k < 12) (h13 : ∀ k, k < z → b = 13 → W k = 10 → vp_in (V k).toInt32 24) (h6 : ∀ k, k < z → W k = 6 → okF 6 (V k)) (hf : f < 12) (hl : sX6_free M = nI f) (htf : t ≠ f) (h1f : mI M 1 f = -1) (h : ∀ k, k < z → tkB (kd4 M (V k)) b (W k) (V k) = true) : Sp (fX6_converted d) [.ref 0, .int (nI t), .int (nI b)] (tkM M x0 y0) (fun r M' => r = some (.int (nI f)) ∧ ∃ x y, M' = tX6_tells (tkM (cvY M f b z W V z) x y) 0 (-1)) := by
  have q := sp_X6_converted (M := tkM M x0 y0) hd b z f W V ((sT_tkM M x0 y0).TR hT) ht (by rw [tkM_I _ _ _ (by decide)]; exact hz) hz2 (fun k hk => by rw [tkM_I _ _ _ (by decide)]; exact hW k hk) (fun k hk => by rw [tkM_L _ _ _ (by decide)]; exact hV k hk) hb hw h13 h6 hf (by rw [free_tk]; exact hl) htf (fun k hk => by rw [kd4_tk]; exact h k hk) (fun c j i _ => by
    subst c
    exact kd4_cvY (by rw [tkM_I _ _ _ (by decide)]; exact h1f) _)
  refine Sp.weaken q (fun r M' hq => ?_)
  obtain ⟨q1, x, y, q2⟩ := hq
  rw [cvY_tk, tkM_tkM] at q2
  exact ⟨q1, x, y, q2⟩
theorem sp_X6_conv_ok {d : Nat} (hd : 5 ≤ d) {M : xM} (t b z : Nat) (W : Nat → Nat) (V : Nat → Int64) (h0 : sX6_isThing (lN t) = true) (h2 : sX6_isIn (lN b) 0 13 = true) (h3 : sX6_refusal M (nI t) = 0) (hT : TR M) (ht : t < 12) (hz : mI M 2 t = nI z) (hz2 : z ≤ 12) (hW : ∀ k, k < z → mI M 4 (12 * t + k) = nI (W k)) (hV : ∀ k, k < z → mL M 5 (12 * t + k) = V k) (hb : b < 14) (hw : ∀ k, k < z → W k < 12) (h13 : ∀ k, k < z → b = 13 → W k = 10 → vp_in (V k).toInt32 24) (h6 : ∀ k, k < z → W k = 6 → okF 6 (V k)) (h : ∀ k, k < z → tkB (kd4 M (V k)) b (W k) (V k) = true) (f : Nat) (hf : f < 12) (hl : sX6_free M = nI f) (htf : t ≠ f) (h1f : mI M 1 f = -1) : Sp (fX6_convert d) [.ref 0, .int (nI t), .int (nI b)] M (fun r M' => r = some (.int (nI f)) ∧ ∃ x y, M' = tX6_tells (tkM (cvY M f b z W V z) x y) 0 (-1)) := by
  refine Sp.of pn_X6 (Nat.le_of_ble_eq_true rfl) (fun h => Bool.noConfusion h) ?_
  have hcv := fun x0 y0 => sp_convS (d := d - 1) (by omega) (M := M) x0 y0 b z f W V hT (show t < 24 by omega) hz hz2 hW hV hb hw h13 h6 hf hl htf h1f h
  refine aw_iload_n dX6_convert_0 1 rfl ?_
  refine aw_i2lN t dX6_convert_1 rfl (by omega) ?_
  refine aw_callSi [.long (lN t)] [] (sp_X6_isThing (d := d - 1) (by omega) (lN t) ) dX6_convert_2 ml_X6_159 sm_X6_isThing rfl (dl1 (d := d) (by omega)) rfl rfl (Nat.le_of_ble_eq_true rfl) rfl rfl (Nat.zero_le _) (Nat.zero_le _) ?_
  refine aw_if_eq 20 dX6_convert_5 (by decide) (fun c1 => absurd c1 (bz_n0.mpr h0)) (fun c1 => ?_)
  refine aw_iload_n dX6_convert_8 2 rfl ?_
  refine aw_i2lN b dX6_convert_9 rfl (by omega) ?_
  refine aw_lconst (v := 0) dX6_convert_10 (by decide) ?_
  refine aw_ldc2 dX6_convert_11 kc_X6_141 ?_
  refine aw_callSi [.long (lN b), .long 0, .long 13] [] (sp_X6_isIn (d := d - 1) (by omega) (lN b) 0 13 ) dX6_convert_14 ml_X6_73 sm_X6_isIn rfl (dl1 (d := d) (by omega)) rfl rfl (Nat.le_of_ble_eq_true rfl) rfl rfl (Nat.zero_le _) (Nat.zero_le _) ?_
  refine aw_if_ne 27 dX6_convert_17 (by decide) (fun c2 => ?_) (fun c2 => absurd c2 (bz_n0.mpr h2))
  refine aw_aload_n dX6_convert_27 0 rfl ?_
  refine aw_iload_n dX6_convert_28 1 rfl ?_
  refine aw_callVi [.int (nI t)] [] (sp_X6_refusal (d := d - 1) (by omega) (nI t) hT (vp_in_nI (by omega) (by decide))) dX6_convert_29 ml_X6_162 im_X6_refusal (hT.s 0 (by decide)) (hT.n 0 (by decide)) rfl rfl (dl1 (d := d) (by omega)) rfl rfl (Nat.le_of_ble_eq_true rfl) rfl rfl (Nat.zero_le _) (Nat.zero_le _) ?_
  refine aw_topE h3 ?_
  refine aw_istore_n [(3, .int 0), (0, .ref 0), (1, .int (nI t)), (2, .int (nI b))] dX6_convert_32 (Nat.le_of_ble_eq_true rfl) rfl ?_
  refine aw_iload_n dX6_convert_33 0 rfl ?_
  refine aw_if_ge 44 dX6_convert_34 (by decide) (fun c3 => ?_) (fun c3 => absurd (by decide) c3)
  refine aw_aload_n dX6_convert_44 1 rfl ?_
  refine aw_iload_n dX6_convert_45 2 rfl ?_
  refine aw_iload_n dX6_convert_46 3 rfl ?_
  refine aw_callVx [.int (nI t), .int (nI b)] [] (sp_fr_all (d := d - 1) (by omega) b z W V hT (show t < 24 by omega) hz hz2 hW hV hb hw h13 h6 h) dX6_convert_47 ml_X6_220 im_X6_firstRefused (hT.s 0 (by decide)) (hT.n 0 (by decide)) rfl rfl (dl1 (d := d) (by omega)) rfl rfl (Nat.le_of_ble_eq_true rfl) rfl rfl (Nat.zero_le _) (Nat.zero_le _) (fun r M1 hq => ?_)
  obtain ⟨rfl, x, y, rfl⟩ := hq
  refine aw_cons ?_
  refine aw_istore [(4, .int (-1)), (3, .int 0), (0, .ref 0), (1, .int (nI t)), (2, .int (nI b))] dX6_convert_50 (Nat.le_of_ble_eq_true rfl) rfl ?_
  refine aw_iload dX6_convert_52 0 rfl ?_
  refine aw_if_lt 66 dX6_convert_54 (by decide) (fun c4 => ?_) (fun c4 => absurd (by decide) c4)
  refine aw_aload_n dX6_convert_66 2 rfl ?_
  refine aw_callVi [] [] (sp_X6_free (d := d - 1) (by omega) ((sT_tkM M x y).TR hT)) dX6_convert_67 ml_X6_151 im_X6_free (((sT_tkM M x y).TR hT).s 0 (by decide)) (((sT_tkM M x y).TR hT).n 0 (by decide)) rfl rfl (dl1 (d := d) (by omega)) rfl rfl (Nat.le_of_ble_eq_true rfl) rfl rfl (Nat.zero_le _) (Nat.zero_le _) ?_
  refine aw_topE (show sX6_free (tkM M x y) = _ from hl) ?_
  refine aw_if_ge 83 dX6_convert_70 (by decide) (fun c5 => ?_) (fun c5 => absurd ((by decide : ∀ f, f < 12 → 0 ≤ nI f) f hf) c5)
  refine aw_aload_n dX6_convert_83 2 rfl ?_
  refine aw_iload_n dX6_convert_84 3 rfl ?_
  refine aw_iload_n dX6_convert_85 4 rfl ?_
  refine aw_callVx [.int (nI t), .int (nI b)] [] (hcv x y) dX6_convert_86 ml_X6_223 im_X6_converted (((sT_tkM M x y).TR hT).s 0 (by decide)) (((sT_tkM M x y).TR hT).n 0 (by decide)) rfl rfl (dl1 (d := d) (by omega)) rfl rfl (Nat.le_of_ble_eq_true rfl) rfl rfl (Nat.zero_le _) (Nat.zero_le _) (fun r M1 hq => ?_)
  obtain ⟨rfl, hq⟩ := hq
  refine aw_cons ?_
  refine aw_iret dX6_convert_89 rfl (Nat.zero_le _) (Nat.zero_le _) ?_
  exact ⟨rfl, hq⟩
theorem first_or (P : Nat → Bool) : ∀ z, (∀ k, k < z → P k = true) ∨ ∃ m, m < z ∧ P m = false ∧ ∀ k, k < m → P k = true
  | 0 => Or.inl (fun k h => by omega)
  | z + 1 => by
    rcases first_or P z with h | ⟨m, h1, h2, h3⟩
    · cases c : P z with
      | true => exact Or.inl (fun k hk => by
          by_cases e : k = z
          · rw [e]; exact c
          · exact h k (by omega))
      | false => exact Or.inr ⟨z, by omega, c, h⟩
    · exact Or.inr ⟨m, by omega, h2, h3⟩
theorem n13_cases (x : Int32) : ((x < 0 ∨ (¬ x < 0 ∧ ¬ x ≤ 13)) ∧ sX6_isIn x.toInt64 0 13 = false) ∨ ∃ k, k < 14 ∧ x = nI k ∧ ¬ x < 0 ∧ x ≤ 13 ∧ sX6_isIn x.toInt64 0 13 = true := by
  cases h : sX6_isIn x.toInt64 0 13 with
  | true =>
    obtain ⟨b, b1, b2⟩ := inN (n := 13) (by decide) h
    have e := nI_of_lN (by omega) b2
    have := (by decide : ∀ k, k ≤ 13 → ¬ nI k < 0 ∧ nI k ≤ 13) b (by omega)
    rw [e]
    exact Or.inr ⟨b, by omega, rfl, this.1, this.2, rfl⟩
  | false =>
    refine Or.inl ⟨?_, rfl⟩
    by_cases c1 : x < 0
    · exact Or.inl c1
    · refine Or.inr ⟨c1, fun c2 => ?_⟩
      have hv := le_vp 13 rfl (by decide) c1 (Int32.not_lt.mpr c2)
      obtain ⟨e, b⟩ := nI_cl hv
      rw [e, nIL (by omega), (by decide +kernel : ∀ k, k < 14 → sX6_isIn (lN k) 0 13 = true) _ b] at h
      cases h
/-- a new row of the kind b in the empty slot f, out of cells W, V that it takes -/
theorem Rel_conv {MC MR : xM} (hR : Rel MC MR) {κ ζ : Nat → Nat} (hS : ∀ t, t < 12 → RelT MC MR κ ζ t) {f b z : Nat} {W : Nat → Nat} {V : Nat → Int64} (hf : f < 12) (he : κ f = 16) (hb : b < 14) (hz : z ≤ 12) (hV : ∀ k, k < z → okV κ (W k) (V k)) (h : ∀ k, k < z → tkB (kd4 MR (V k)) b (W k) (V k) = true) : Rel (cvX MC f b z W V z) (cvY MR f b z W V z) := by
  refine Rel_new (k := b) (z := z) hR hS he ((sT_cvX _ _ _ _ _ _ _).TC hR.1) ((sT_cvY _ _ _ _ _ _ _).TR hR.2.1) ?_ (fun a h1 h2 h3 => ⟨cvX_I _ _ _ _ _ _ _ h1 h2, cvX_L _ _ _ _ _ _ _ h3⟩) (fun u hu => ⟨?_, ?_, ?_, fun i hi => cvY_4 _ _ _ _ _ _ hz hu hi⟩) (fun a ha => ⟨?_, ?_⟩) ?_
  · intro u hu
    rw [(cvY_1 MR f b z W V z u).2]
    by_cases c : u = f
    · rw [if_pos c]; exact ⟨z, hz, rfl⟩
    · rw [if_neg c]; exact hR.2.2.1 u hu
  · rw [(cvY_1 MR f b z W V z u).1, if_neg hu]
  · rw [(cvY_1 MR f b z W V z u).2, if_neg hu]
  · unfold cvY
    rw [mL_flL_ne _ (by decide)]
    show mL (begM MR f (nI b) (nI z)) 3 u = _
    rw [begM_3o _ _ _ _ hu]
  · unfold cvY
    rw [mI_flL, mI_flI_ne _ (by omega), begM_oI _ _ _ _ ha]
  · unfold cvY
    rw [mL_flL_ne _ (by omega)]
    show mL (begM MR f (nI b) (nI z)) a = _
    rw [begM_oL _ _ _ _ ha]
  · unfold RelT
    rw [updN_s, updN_s]
    refine ⟨by omega, hz, ?_, ?_, ?_, fun _ => ?_, fun q => absurd q (by omega), fun q => absurd q (by omega), fun i hi => ?_⟩
    · rw [cvX_R, beaM_0, kdI_lt (by omega)]
    · rw [(cvY_1 MR f b z W V z f).1, if_pos rfl, kdI_lt (by omega)]
    · rw [cvX_R, beaM_1]
    · rw [(cvY_1 MR f b z W V z f).2, if_pos rfl]
    · have e1 : mI (cvX MC f b z W V z) (54 + 3 * f + 1) i = nI (hwt b (W i)) := by
        unfold cvX
        rw [mI_flL]
        have := mI_flI_at (beaM MC (54 + 3 * f) (nI b) z) (a := 54 + 3 * f + 1) (lo := 0) (g := fun k => nI (hwt b (W k))) hi
        rw [Nat.zero_add] at this
        exact this
      have e2 : mL (cvX MC f b z W V z) (54 + 3 * f + 2) i = hvl b (W i) (V i) := by
        unfold cvX
        have := mL_flL_at (flI (beaM MC (54 + 3 * f) (nI b) z) (54 + 3 * f + 1) 0 z (fun k => nI (hwt b (W k)))) (a := 54 + 3 * f + 2) (lo := 0) (g := fun k => hvl b (W k) (V k)) hi
        rw [Nat.zero_add] at this
        exact this
      have e3 : mI (cvY MR f b z W V z) 4 (12 * f + i) = nI (hwt b (W i)) := by
        unfold cvY
        rw [mI_flL]
        exact mI_flI_at _ hi
      have e4 : mL (cvY MR f b z W V z) 5 (12 * f + i) = hvl b (W i) (V i) := by
        unfold cvY
        exact mL_flL_at _ hi
      rw [e1, e2, e3, e4]
      exact ⟨rfl, rfl, hwt b (W i), rfl, okC_upd (okC_tk (hV i hi) hb (h i hi) (fun _ hx => kd4_of hS hx)) he⟩
theorem cells_of {MC MR : xM} {κ ζ : Nat → Nat} {t : Nat} (h : RelT MC MR κ ζ t) : ∀ i, i < ζ t → mI MC (54 + 3 * t + 1) i = nI (mI MR 4 (12 * t + i)).toNatClampNeg ∧ mI MR 4 (12 * t + i) = nI (mI MR 4 (12 * t + i)).toNatClampNeg ∧ mL MC (54 + 3 * t + 2) i = mL MR 5 (12 * t + i) ∧ okC κ (κ t) (mI MR 4 (12 * t + i)).toNatClampNeg (mL MR 5 (12 * t + i)) := by
  intro i hi
  obtain ⟨-, -, -, -, -, -, -, -, h9⟩ := h
  obtain ⟨q1, q2, w, q3, q4⟩ := h9 i hi
  have hw := q4.1
  rw [q1, q3, nI_clamp (by omega)]
  exact ⟨rfl, rfl, q2, q4⟩
theorem fcX {F G : xF} {as : List Value} {MC MR MC' : xM} {x y : Int32} {Q : xM → Prop} (h1 : Sp F as MC (dt (some (.int x)) MC')) (h2 : Sp G as MR (fun r M' => r = some (.int y) ∧ Q M')) (e : x = y) (hR : ∀ B, Q B → Rel MC' B) : ∃ (ρ : Int32) (QC QR : xM → Prop), Sp F as MC (fun r M' => r = some (.int ρ) ∧ QC M') ∧ Sp G as MR (fun r M' => r = some (.int ρ) ∧ QR M') ∧ ∀ A B, QC A → QR B → Rel A B := by
  subst e
  exact ⟨x, (fun M => M = MC'), Q, h1, h2, fun A B ha hb => by rw [ha]; exact hR B hb⟩
theorem fc_convert : Fc_convert Rel := by
  intro a0 a1 MC MR hR
  obtain ⟨κ, ζ, hS⟩ := hR.2.2.2.1
  have hbad : Rel (tX5_report MC (-1) (-1)) (tX6_tells MR (-1) (-1)) := Rel_tells hR _ _
  rcases n13_cases a1 with ⟨n1, n2⟩ | ⟨b, hb, rfl, n1, n2, n3⟩
  · refine fcI (sp_X5_conv_bad (by decide) a0 a1 hR.1 n1) (sp_X6_conv_bad (by decide) a0 a1 hR.2.1 ?_) rfl hbad
    cases h : sX6_isThing a0.toInt64 with
    | false => exact Or.inl rfl
    | true => exact Or.inr ⟨rfl, n2⟩
  · rcases slot_cases a0 with ⟨s1, s2⟩ | ⟨t, ht, rfl, s1, s2⟩
    · have e : sX5_arrayError MC a0 = -1 := by unfold sX5_arrayError sX5_slotError; rw [s1]; rfl
      have h1 := sp_X5_conv_e (d := 200) (by decide) a0 (nI b) hR.1 n1 n2 (by rw [e]; decide)
      rw [e] at h1
      exact fcI h1 (sp_X6_conv_bad (by decide) a0 (nI b) hR.2.1 (Or.inl s2)) rfl hbad
    · have hT := hS t ht
      have ea := arrayE_of ht hT s1
      have er := refusal_of ht hT
      by_cases c : eA (κ t) = 0
      · have hk14 : κ t < 14 := by have := hT.1; rcases eA_0 c with q | q <;> omega
        rw [c] at ea er
        have hc := cells_of hT
        have hz := hT.2.1
        have hzC := hT.2.2.2.2.1
        have hzR := hT.2.2.2.2.2.1 (by omega)
        rw [nIL (by omega)] at s2 n3
        generalize hW : (fun i => (mI MR 4 (12 * t + i)).toNatClampNeg) = W
        generalize hV : (fun i => mL MR 5 (12 * t + i)) = V
        have hc : ∀ i, i < ζ t → mI MC (54 + 3 * t + 1) i = nI (W i) ∧ mI MR 4 (12 * t + i) = nI (W i) ∧ mL MC (54 + 3 * t + 2) i = V i ∧ okC κ (κ t) (W i) (V i) := by
          rw [← hW, ← hV]; exact hc
        have hV5 : ∀ i, i < ζ t → mL MR 5 (12 * t + i) = V i := fun i _ => by rw [← hV]
        have hV' : ∀ i, i < ζ t → okV κ (W i) (V i) := fun i hi => (hc i hi).2.2.2.V
        have hacc : ∀ i, i < ζ t → sX5_accepts MC (nI b) (nI (W i)) (V i) = tkB (kd4 MR (V i)) b (W i) (V i) := fun i hi => acc_of hS hb (hV' i hi).1 (fun z => by obtain ⟨q, q1, q2, -⟩ := (hV' i hi).2.2.2.2.1 z; exact ⟨q, q1, q2⟩)
        have h13 : ∀ i, i < ζ t → b = 13 → W i = 10 → vp_in (V i).toInt32 24 := fun i hi _ z => by
          obtain ⟨q, q1, q2, -⟩ := (hV' i hi).2.2.2.2.1 z
          rw [q2, l32 q1]
          exact vp_in_nI (by omega) (by decide)
        rcases first_or (fun k => tkB (kd4 MR (V k)) b (W k) (V k)) (ζ t) with hall | ⟨m, m1, m2, m3⟩
        · have hlow := Rel_low hR.2.2.2.1
          rcases free_cases hS with ef | ⟨f, hf, ef, hkf⟩
          · have h1 := sp_kc_full (d := 199) (by decide) (M := MC) (a := 54 + 3 * t) b (ζ t) W V hR.1 (hR.1.row ht) hzC hz (fun k hk => (hc k hk).1) (fun k hk => (hc k hk).2.2.1) (fun k hk => (hacc k hk).trans (hall k hk)) (hlow.trans ef)
            have h2 := sp_X6_conv_f (d := 200) (by decide) t b (ζ t) W V s2 n3 er hR.2.1 ht hzR hz (fun k hk => (hc k hk).2.1) hV5 hb (fun k hk => (hV' k hk).1) h13 (fun k hk => (hV' k hk).f6) hall ef
            exact fcX (sp_X5_conv_go (by decide) t b hR.1 ht hb ea h1) h2 rfl (fun B hB => by obtain ⟨x, y, rfl⟩ := hB; exact Rel_tells (Rel_tk hR x y).1 _ _)
          · have htf : t ≠ f := fun e => by rw [e] at hk14; omega
            have h1f : mI MR 1 f = -1 := by rw [(hS f hf).2.2.2.1, hkf]; rfl
            have h1 := sp_kc_ok (d := 199) (by decide) (M := MC) (a := 54 + 3 * t) b (ζ t) W V hR.1 (hR.1.row ht) hzC hz (fun k hk => (hc k hk).1) (fun k hk => (hc k hk).2.2.1) (fun k hk => (hacc k hk).trans (hall k hk)) f hf (hlow.trans ef) (by omega) hb (fun k hk z => by
              have := hall k hk
              unfold tkB at this
              rw [if_pos z, Bool.and_eq_true] at this
              exact of_decide_eq_true this.1) (fun k hk => (hV' k hk).f6)
            have h2 := sp_X6_conv_ok (d := 200) (by decide) t b (ζ t) W V s2 n3 er hR.2.1 ht hzR hz (fun k hk => (hc k hk).2.1) hV5 hb (fun k hk => (hV' k hk).1) h13 (fun k hk => (hV' k hk).f6) hall f hf ef htf h1f
            exact fcX (sp_X5_conv_go (by decide) t b hR.1 ht hb ea h1) h2 rfl (fun B hB => by
              obtain ⟨x, y, rfl⟩ := hB
              exact Rel_tells (Rel_tk (Rel_conv hR hS hf hkf hb hz hV' hall) x y).1 _ _)
        · have h1 := sp_kc_ref (d := 199) (by decide) (M := MC) (a := 54 + 3 * t) b (ζ t) W V hR.1 (hR.1.row ht) hzC hz (fun k hk => (hc k hk).1) (fun k hk => (hc k hk).2.2.1) m m1 ((hacc m m1).trans m2) (fun k hk => (hacc k (by omega)).trans (m3 k hk))
          have h2 := sp_X6_conv_k (d := 200) (by decide) t b (ζ t) W V s2 n3 er hR.2.1 ht hzR hz (fun k hk => (hc k hk).2.1) hV5 hb (fun k hk => (hV' k hk).1) h13 (fun k hk => (hV' k hk).f6) m m1 m2 m3
          exact fcX (sp_X5_conv_go (by decide) t b hR.1 ht hb ea h1) h2 rfl (fun B hB => by obtain ⟨x, y, rfl⟩ := hB; exact Rel_tells (Rel_tk hR x y).1 _ _)
      · have h1 := sp_X5_conv_e (d := 200) (by decide) (nI t) (nI b) hR.1 n1 n2 (by rw [ea]; exact c)
        have h2 := sp_X6_conv_r (d := 200) (by decide) (nI t) (nI b) hR.2.1 s2 n3 (by rw [er]; exact eA_lt c)
        rw [ea] at h1
        rw [er] at h2
        exact fcI h1 h2 rfl (Rel_tells hR _ _)
