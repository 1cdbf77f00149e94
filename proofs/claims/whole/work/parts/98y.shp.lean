-- SHAPE: contracts
def kin (w : Nat) (v : Int64) : Int32 := if w = 8 then knm v else -4
def rin (w : Nat) (v : Int64) : Int32 := if w = 8 then lsd (nmP v) (-1) 16 0 else -1
theorem min_N {a b : Nat} (ha : a ≤ 12) (hb : b ≤ 12) : (if nI b < nI a then nI b else nI a) = nI (min a b) := by
  by_cases c : b < a
  · rw [if_pos ((L32 (by omega) (by omega)).mpr c), show min a b = b by omega]
  · rw [if_neg (fun z => c ((L32 (by omega) (by omega)).mp z)), show min a b = a by omega]
theorem sp_kis {d : Nat} (hd : 1 ≤ d) {M : xM} {a : Nat} (i w : Nat) (v : Int64) (hR : RowAt M a) (hi : i < 12) (hw8 : w < 12) (hw : mI M (a + 1) i = nI w) (hv : mL M (a + 2) i = v) : Sp (fX5_kindInSchema d) [.ref a, .int (nI i)] M (dt (some (.int (kin w v))) M) := by
  refine Sp.of pn_X5 (Nat.le_of_ble_eq_true rfl) (fun h => Bool.noConfusion h) ?_
  unfold kin
  by_cases c : w = 8
  · rw [if_pos c]
    refine aw_aload_n dX5_kindInSchema_0 0 rfl ?_
    refine aw_getR (b := a + 1) dX5_kindInSchema_1 fl_X5_170 rfl hR.1 hR.n0 hR.2.2.2.1 ?_
    refine aw_iload_n dX5_kindInSchema_4 1 rfl ?_
    refine aw_ialdN i dX5_kindInSchema_5 hR.2.1 hR.n1 rfl (by omega) (by first | decide | omega) ?_
    refine aw_topE hw ?_
    refine aw_bipush (v := 8) dX5_kindInSchema_6 (by decide) ?_
    refine aw_icmp_neN w 8 23 dX5_kindInSchema_8 (by decide) rfl rfl (by omega) (by omega) (fun c1 => absurd c c1) (fun c1 => ?_)
    refine aw_aload_n dX5_kindInSchema_11 0 rfl ?_
    refine aw_getR (b := a + 2) dX5_kindInSchema_12 fl_X5_142 rfl hR.1 hR.n0 hR.2.2.2.2.1 ?_
    refine aw_iload_n dX5_kindInSchema_15 1 rfl ?_
    refine aw_laldN i dX5_kindInSchema_16 hR.2.2.1 hR.n2 rfl (by omega) (by first | decide | omega) ?_
    refine aw_toplE hv ?_
    refine aw_callSi [.long v] [] (sp_X5_kindNamed (d := d - 1) (by omega) v ) dX5_kindInSchema_17 ml_X5_277 sm_X5_kindNamed rfl (dl1 (d := d) (by omega)) rfl rfl (Nat.le_of_ble_eq_true rfl) rfl rfl (Nat.zero_le _) (Nat.zero_le _) ?_
    refine aw_goto 25 dX5_kindInSchema_20 (by decide) ?_
    refine aw_iret dX5_kindInSchema_25 rfl (Nat.zero_le _) (Nat.zero_le _) ?_
    exact ⟨rfl, rfl⟩
  · rw [if_neg c]
    refine aw_aload_n dX5_kindInSchema_0 0 rfl ?_
    refine aw_getR (b := a + 1) dX5_kindInSchema_1 fl_X5_170 rfl hR.1 hR.n0 hR.2.2.2.1 ?_
    refine aw_iload_n dX5_kindInSchema_4 1 rfl ?_
    refine aw_ialdN i dX5_kindInSchema_5 hR.2.1 hR.n1 rfl (by omega) (by first | decide | omega) ?_
    refine aw_topE hw ?_
    refine aw_bipush (v := 8) dX5_kindInSchema_6 (by decide) ?_
    refine aw_icmp_neN w 8 23 dX5_kindInSchema_8 (by decide) rfl rfl (by omega) (by omega) (fun c1 => ?_) (fun c1 => absurd c1 c)
    refine aw_bipush (v := -4) dX5_kindInSchema_23 (by decide) ?_
    refine aw_iret dX5_kindInSchema_25 rfl (Nat.zero_le _) (Nat.zero_le _) ?_
    exact ⟨rfl, rfl⟩
theorem sp_nin {d : Nat} (hd : 0 ≤ d) {M : xM} (s i w : Nat) (v : Int64) (hT : TR M) (hs : s < 12) (hi : i < 12) (hw8 : w < 12) (hw : mI M 4 (12 * s + i) = nI w) (hv : mL M 5 (12 * s + i) = v) (hN : ∀ k, k < 16 → mL M 18 k = tNAMES.getD k 0) : Sp (fX6_namedIn d) [.ref 0, .int (nI s), .int (nI i)] M (dt (some (.int (rin w v))) M) := by
  refine Sp.of pn_X6 (Nat.le_of_ble_eq_true rfl) (fun h => Bool.noConfusion h) ?_
  unfold rin
  by_cases c : w = 8
  · rw [if_pos c]
    have loop : ∀ (n j : Nat) , j + n = 16 → AW (fX6_namedIn d) 20 [(3, .int (nI j)), (0, .ref 0), (1, .int (nI s)), (2, .int (nI i))] [] M 0 0 (dt (some (.int (lsd (nmP v) (-1) n j))) M) := by
      intro n
      induction n with
      | zero =>
        intro j  hi 
        refine aw_iload_n dX6_namedIn_20 0 rfl ?_
        refine aw_bipush (v := 16) dX6_namedIn_21 (by decide) ?_
        refine aw_icmp_geN j 16 55 dX6_namedIn_23 (by decide) rfl rfl (by omega) (by omega) (fun c1 => ?_) (fun c1 => absurd (by omega) c1)
        refine aw_iconst (v := -1) dX6_namedIn_55 (by decide) ?_
        refine aw_iret dX6_namedIn_56 rfl (Nat.zero_le _) (Nat.zero_le _) ?_
        exact ⟨rfl, rfl⟩
      | succ n ih =>
        intro j  hi 
        refine aw_iload_n dX6_namedIn_20 0 rfl ?_
        refine aw_bipush (v := 16) dX6_namedIn_21 (by decide) ?_
        refine aw_icmp_geN j 16 55 dX6_namedIn_23 (by decide) rfl rfl (by omega) (by omega) (fun c1 => absurd c1 (by omega)) (fun c1 => ?_)
        refine aw_aload_n dX6_namedIn_26 1 rfl ?_
        refine aw_getR (b := 18) dX6_namedIn_27 fl_X6_66 rfl (hT.s 0 (by decide)) (hT.n 0 (by decide)) (hT.r 32) ?_
        refine aw_iload_n dX6_namedIn_30 0 rfl ?_
        refine aw_laldN j dX6_namedIn_31 (hT.s 18 (by decide)) (hT.n 18 (by decide)) rfl (by omega) (by first | decide | omega) ?_
        refine aw_toplE (hN j (by omega)) ?_
        refine aw_aload_n dX6_namedIn_32 1 rfl ?_
        refine aw_getR (b := 5) dX6_namedIn_33 fl_X6_23 rfl (hT.s 0 (by decide)) (hT.n 0 (by decide)) (hT.r 4) ?_
        refine aw_bipush (v := 12) dX6_namedIn_36 (by decide) ?_
        refine aw_iload_n dX6_namedIn_38 2 rfl ?_
        refine aw_imulN 12 s dX6_namedIn_39 rfl rfl ?_
        refine aw_iload_n dX6_namedIn_40 3 rfl ?_
        refine aw_iaddN (12 * s) i dX6_namedIn_41 rfl rfl ?_
        refine aw_laldN ((12 * s) + i) dX6_namedIn_42 (hT.s 5 (by decide)) (hT.n 5 (by decide)) rfl (by omega) (by first | decide | omega) ?_
        refine aw_toplE hv ?_
        refine aw_lne 49 dX6_namedIn_43 dX6_namedIn_44 (by decide) (fun c2 => ?_) (fun c2 => ?_)
        · refine aw_iincN j 1 [(3, .int (nI (j + 1))), (0, .ref 0), (1, .int (nI s)), (2, .int (nI i))] dX6_namedIn_49 0 rfl rfl rfl (Nat.le_of_ble_eq_true rfl) rfl ?_
          refine aw_goto 20 dX6_namedIn_52 (by decide) ?_
          rw [lsd_f n (show nmP v j = false from decide_eq_false c2)]
          exact ih (j + 1) (by omega)
        · refine aw_iload_n dX6_namedIn_47 0 rfl ?_
          refine aw_iret dX6_namedIn_48 rfl (Nat.zero_le _) (Nat.zero_le _) ?_
          rw [lsd_t n (show nmP v j = true from decide_eq_true c2)]
          exact ⟨rfl, rfl⟩
    refine aw_aload_n dX6_namedIn_0 0 rfl ?_
    refine aw_getR (b := 4) dX6_namedIn_1 fl_X6_20 rfl (hT.s 0 (by decide)) (hT.n 0 (by decide)) (hT.r 3) ?_
    refine aw_bipush (v := 12) dX6_namedIn_4 (by decide) ?_
    refine aw_iload_n dX6_namedIn_6 1 rfl ?_
    refine aw_imulN 12 s dX6_namedIn_7 rfl rfl ?_
    refine aw_iload_n dX6_namedIn_8 2 rfl ?_
    refine aw_iaddN (12 * s) i dX6_namedIn_9 rfl rfl ?_
    refine aw_ialdN ((12 * s) + i) dX6_namedIn_10 (hT.s 4 (by decide)) (hT.n 4 (by decide)) rfl (by omega) (by first | decide | omega) ?_
    refine aw_topE hw ?_
    refine aw_bipush (v := 8) dX6_namedIn_11 (by decide) ?_
    refine aw_icmp_eqN w 8 18 dX6_namedIn_13 (by decide) rfl rfl (by omega) (by omega) (fun c1 => ?_) (fun c1 => absurd c c1)
    refine aw_iconst (v := 0) dX6_namedIn_18 (by decide) ?_
    refine aw_istore_n [(3, .int 0), (0, .ref 0), (1, .int (nI s)), (2, .int (nI i))] dX6_namedIn_19 (Nat.le_of_ble_eq_true rfl) rfl ?_
    exact loop 16 0 (by omega)
  · rw [if_neg c]
    refine aw_aload_n dX6_namedIn_0 0 rfl ?_
    refine aw_getR (b := 4) dX6_namedIn_1 fl_X6_20 rfl (hT.s 0 (by decide)) (hT.n 0 (by decide)) (hT.r 3) ?_
    refine aw_bipush (v := 12) dX6_namedIn_4 (by decide) ?_
    refine aw_iload_n dX6_namedIn_6 1 rfl ?_
    refine aw_imulN 12 s dX6_namedIn_7 rfl rfl ?_
    refine aw_iload_n dX6_namedIn_8 2 rfl ?_
    refine aw_iaddN (12 * s) i dX6_namedIn_9 rfl rfl ?_
    refine aw_ialdN ((12 * s) + i) dX6_namedIn_10 (hT.s 4 (by decide)) (hT.n 4 (by decide)) rfl (by omega) (by first | decide | omega) ?_
    refine aw_topE hw ?_
    refine aw_bipush (v := 8) dX6_namedIn_11 (by decide) ?_
    refine aw_icmp_eqN w 8 18 dX6_namedIn_13 (by decide) rfl rfl (by omega) (by omega) (fun c1 => absurd c1 c) (fun c1 => ?_)
    refine aw_iconst (v := -1) dX6_namedIn_16 (by decide) ?_
    refine aw_iret dX6_namedIn_17 rfl (Nat.zero_le _) (Nat.zero_le _) ?_
    exact ⟨rfl, rfl⟩


theorem arrP_vp {M : xM} {x y : Int32} (h : sX5_arrayPairError M x y = 0) : vp_in x 12 ∧ vp_in y 12 := by
  unfold sX5_arrayPairError sX5_firstError at h
  by_cases c1 : sX5_arrayError M x = 0
  · rw [if_pos c1] at h
    exact ⟨arrayE_vp c1, arrayE_vp h⟩
  · rw [if_neg c1] at h
    by_cases c2 : sX5_arrayError M y = 0
    · rw [if_pos c2] at h; exact absurd h c1
    · rw [if_neg c2] at h
      split at h
      · exact absurd h c2
      · exact absurd h c1
def sX5_shapeError (M : xM) (x1 : Int32) (x2 : Int32) : Int32 := (if (sX5_arrayPairError M x1 x2) = 0 then (if (mI M (54 + 3 * x1.toNatClampNeg) 0) = 9 then (if (bz (sX2_isPrimitive M (54 + 3 * x2.toNatClampNeg))) = 0 then -7 else 0) else -2) else sX5_arrayPairError M x1 x2)
theorem sp_X5_shapeError {d : Nat} (hd : 4 ≤ d) {M : xM} (x1 : Int32) (x2 : Int32) (hT : TC M)  : Sp (fX5_shapeError d) [.ref 0, .int x1, .int x2] M (dt (some (.int (sX5_shapeError M x1 x2))) (M)) := by
  refine Sp.of pn_X5 (Nat.le_of_ble_eq_true rfl) (fun h => Bool.noConfusion h) ?_
  refine aw_aload_n dX5_shapeError_0 0 rfl ?_
  refine aw_iload_n dX5_shapeError_1 1 rfl ?_
  refine aw_iload_n dX5_shapeError_2 2 rfl ?_
  refine aw_callVi [.int x1, .int x2] [] (sp_X5_arrayPairError (d := d - 1) (by omega) x1 x2 hT) dX5_shapeError_3 ml_X5_179 im_X5_arrayPairError (hT.s 0 (by decide)) (hT.n 0 (by decide)) rfl rfl (dl1 (d := d) (by omega)) rfl rfl (Nat.le_of_ble_eq_true rfl) rfl rfl (Nat.zero_le _) (Nat.zero_le _) ?_
  refine aw_istore_n [(3, .int (sX5_arrayPairError M x1 x2)), (0, .ref 0), (1, .int x1), (2, .int x2)] dX5_shapeError_6 (Nat.le_of_ble_eq_true rfl) rfl ?_
  refine aw_iload_n dX5_shapeError_7 0 rfl ?_
  refine aw_if_eq 13 dX5_shapeError_8 (by decide) (fun c1 => ?_) (fun c1 => ?_)
  · refine aw_aload_n dX5_shapeError_13 1 rfl ?_
    refine aw_getR (b := 1) dX5_shapeError_14 fl_X5_11 rfl (hT.s 0 (by decide)) (hT.n 0 (by decide)) (hT.r 0 0 (by decide) (by decide)) ?_
    refine aw_iload_n dX5_shapeError_17 2 rfl ?_
    refine aw_aald (b := 54 + 3 * x1.toNatClampNeg) dX5_shapeError_18 (hT.s 1 (by decide)) (hT.n 1 (by decide)) (arrP_vp c1).1 (hT.slot (vp_lt (arrP_vp c1).1)) ?_
    refine aw_getI dX5_shapeError_19 fl_X5_98 (hT.row (t := x1.toNatClampNeg) (vp_lt (arrP_vp c1).1)).1 (hT.row (t := x1.toNatClampNeg) (vp_lt (arrP_vp c1).1)).n0 ?_
    refine aw_bipush (v := 9) dX5_shapeError_22 (by decide) ?_
    refine aw_icmp_eq 30 dX5_shapeError_24 (by decide) (fun c2 => ?_) (fun c2 => ?_)
    · refine aw_aload_n dX5_shapeError_30 1 rfl ?_
      refine aw_getR (b := 1) dX5_shapeError_31 fl_X5_11 rfl (hT.s 0 (by decide)) (hT.n 0 (by decide)) (hT.r 0 0 (by decide) (by decide)) ?_
      refine aw_iload_n dX5_shapeError_34 3 rfl ?_
      refine aw_aald (b := 54 + 3 * x2.toNatClampNeg) dX5_shapeError_35 (hT.s 1 (by decide)) (hT.n 1 (by decide)) (arrP_vp c1).2 (hT.slot (vp_lt (arrP_vp c1).2)) ?_
      refine aw_callVi [] [] (sp_X2_isPrimitive (d := d - 1) (by omega)  (hT.row (t := x2.toNatClampNeg) (vp_lt (arrP_vp c1).2))) dX5_shapeError_36 ml_X5_284 im_X2_isPrimitive (hT.row (t := x2.toNatClampNeg) (vp_lt (arrP_vp c1).2)).1 (hT.row (t := x2.toNatClampNeg) (vp_lt (arrP_vp c1).2)).n0 rfl rfl (dl1 (d := d) (by omega)) rfl rfl (Nat.le_of_ble_eq_true rfl) rfl rfl (Nat.zero_le _) (Nat.zero_le _) ?_
      refine aw_if_eq 46 dX5_shapeError_39 (by decide) (fun c3 => ?_) (fun c3 => ?_)
      · refine aw_bipush (v := -7) dX5_shapeError_46 (by decide) ?_
        refine aw_iret dX5_shapeError_48 rfl (Nat.zero_le _) (Nat.zero_le _) ?_
        exact ⟨congrArg (fun z => some (Value.int z)) (show sX5_shapeError M x1 x2 = -7 by unfold sX5_shapeError; rw [if_pos c1, if_pos c2, if_pos c3]).symm, rfl⟩
      · refine aw_iconst (v := 0) dX5_shapeError_42 (by decide) ?_
        refine aw_goto 48 dX5_shapeError_43 (by decide) ?_
        refine aw_iret dX5_shapeError_48 rfl (Nat.zero_le _) (Nat.zero_le _) ?_
        exact ⟨congrArg (fun z => some (Value.int z)) (show sX5_shapeError M x1 x2 = 0 by unfold sX5_shapeError; rw [if_pos c1, if_pos c2, if_neg c3]).symm, rfl⟩
    · refine aw_bipush (v := -2) dX5_shapeError_27 (by decide) ?_
      refine aw_iret dX5_shapeError_29 rfl (Nat.zero_le _) (Nat.zero_le _) ?_
      exact ⟨congrArg (fun z => some (Value.int z)) (show sX5_shapeError M x1 x2 = -2 by unfold sX5_shapeError; rw [if_pos c1, if_neg c2]).symm, rfl⟩
  · refine aw_iload_n dX5_shapeError_11 0 rfl ?_
    refine aw_iret dX5_shapeError_12 rfl (Nat.zero_le _) (Nat.zero_le _) ?_
    exact ⟨congrArg (fun z => some (Value.int z)) (show sX5_shapeError M x1 x2 = sX5_arrayPairError M x1 x2 by unfold sX5_shapeError; rw [if_neg c1]).symm, rfl⟩
theorem sp_X5_shape_e {d : Nat} (hd : 6 ≤ d) {M : xM} (x1 x2 e : Int32) (hT : TC M) (h3 : sX5_shapeError M x1 x2 = e) (he : ¬ e = 0) : Sp (fX5_shape d) [.ref 0, .int x1, .int x2] M (dt (some (.int e)) (tX5_report M e (-1))) := by
  refine Sp.of pn_X5 (Nat.le_of_ble_eq_true rfl) (fun h => Bool.noConfusion h) ?_
  refine aw_aload_n dX5_shape_0 0 rfl ?_
  refine aw_iload_n dX5_shape_1 1 rfl ?_
  refine aw_iload_n dX5_shape_2 2 rfl ?_
  refine aw_callVi [.int x1, .int x2] [] (sp_X5_shapeError (d := d - 1) (by omega) x1 x2 hT) dX5_shape_3 ml_X5_190 im_X5_shapeError (hT.s 0 (by decide)) (hT.n 0 (by decide)) rfl rfl (dl1 (d := d) (by omega)) rfl rfl (Nat.le_of_ble_eq_true rfl) rfl rfl (Nat.zero_le _) (Nat.zero_le _) ?_
  refine aw_topE h3 ?_
  refine aw_istore_n [(3, .int e), (0, .ref 0), (1, .int x1), (2, .int x2)] dX5_shape_6 (Nat.le_of_ble_eq_true rfl) rfl ?_
  refine aw_iload_n dX5_shape_7 0 rfl ?_
  refine aw_if_eq 18 dX5_shape_8 (by decide) (fun c1 => absurd c1 he) (fun c1 => ?_)
  refine aw_aload_n dX5_shape_11 1 rfl ?_
  refine aw_iload_n dX5_shape_12 0 rfl ?_
  refine aw_iconst (v := -1) dX5_shape_13 (by decide) ?_
  refine aw_callVi [.int e, .int (-1)] [] (sp_X5_report (d := d - 1) (by omega) e (-1) hT) dX5_shape_14 ml_X5_138 im_X5_report (hT.s 0 (by decide)) (hT.n 0 (by decide)) rfl rfl (dl1 (d := d) (by omega)) rfl rfl (Nat.le_of_ble_eq_true rfl) rfl rfl (Nat.zero_le _) (Nat.zero_le _) ?_
  refine aw_iret dX5_shape_17 rfl (Nat.zero_le _) (Nat.zero_le _) ?_
  exact ⟨rfl, rfl⟩
theorem sh_all {d : Nat} (hd : 6 ≤ d) {M : xM} {s t n a : Nat} {W : Nat → Nat} {V : Nat → Int64} (hT : TC M) (hs : s < 12) (ht : t < 12) (hn : n ≤ 12) (hk : mI M (54 + 3 * t) 0 = nI a) (hW : ∀ k, k < n → mI M (54 + 3 * s + 1) k = nI (W k)) (hW12 : ∀ k, k < n → W k < 12) (hV : ∀ k, k < n → mL M (54 + 3 * s + 2) k = V k) {post : Option Value → xM → Prop} : ∀ (m i : Nat), i + m = n → (∀ k, i ≤ k → k < n → sX0_widens (nI a) (kin (W k) (V k)) = true) → AW (fX5_shape d) 92 [(7, .int (nI n)), (6, .int (nI n)), (5, .ref (54 + 3 * t)), (4, .ref (54 + 3 * s)), (3, .int 0), (0, .ref 0), (1, .int (nI s)), (2, .int (nI t))] [] M 0 0 post → AW (fX5_shape d) 52 [(7, .int (nI i)), (6, .int (nI n)), (5, .ref (54 + 3 * t)), (4, .ref (54 + 3 * s)), (3, .int 0), (0, .ref 0), (1, .int (nI s)), (2, .int (nI t))] [] M 0 0 post := by
  intro m
  induction m with
  | zero =>
    intro i hi h hk
    obtain rfl : i = n := by omega
    refine aw_iload dX5_shape_52 0 rfl ?_
    refine aw_iload dX5_shape_54 1 rfl ?_
    refine aw_icmp_geN i i 92 dX5_shape_56 (by decide) rfl rfl (by omega) (by omega) (fun c1 => ?_) (fun c1 => absurd (by omega) c1)
    exact hk
  | succ m ih =>
    intro i hi h hk2
    have h0 := h i (by omega) (by omega)
    refine aw_iload dX5_shape_52 0 rfl ?_
    refine aw_iload dX5_shape_54 1 rfl ?_
    refine aw_icmp_geN i n 92 dX5_shape_56 (by decide) rfl rfl (by omega) (by omega) (fun c1 => absurd c1 (by omega)) (fun c1 => ?_)
    refine aw_aload dX5_shape_59 2 rfl ?_
    refine aw_getI dX5_shape_61 fl_X5_98 (hT.row (t := t) (by omega)).1 (hT.row (t := t) (by omega)).n0 ?_
    refine aw_topE hk ?_
    refine aw_aload dX5_shape_64 3 rfl ?_
    refine aw_iload dX5_shape_66 0 rfl ?_
    refine aw_callSi [.ref (54 + 3 * s), .int (nI i)] [.int (nI a)] (sp_kis (d := d - 1) (by omega) i (W i) (V i) (hT.row hs) (by omega) (hW12 i (by omega)) (hW i (by omega)) (hV i (by omega))) dX5_shape_68 ml_X5_198 sm_X5_kindInSchema rfl (dl1 (d := d) (by omega)) rfl rfl (Nat.le_of_ble_eq_true rfl) rfl rfl (Nat.zero_le _) (Nat.zero_le _) ?_
    refine aw_callSi [.int (nI a), .int (kin (W i) (V i))] [] (sp_X0_widens (d := d - 1) (by omega) (nI a) (kin (W i) (V i))) dX5_shape_71 ml_X5_167 sm_X0_widens rfl (dl1 (d := d) (by omega)) rfl rfl (Nat.le_of_ble_eq_true rfl) rfl rfl (Nat.zero_le _) (Nat.zero_le _) ?_
    refine aw_if_ne 86 dX5_shape_74 (by decide) (fun c2 => ?_) (fun c2 => absurd c2 (bz_n0.mpr h0))
    refine aw_iincN i 1 [(7, .int (nI (i + 1))), (6, .int (nI n)), (5, .ref (54 + 3 * t)), (4, .ref (54 + 3 * s)), (3, .int 0), (0, .ref 0), (1, .int (nI s)), (2, .int (nI t))] dX5_shape_86 0 rfl rfl rfl (Nat.le_of_ble_eq_true rfl) rfl ?_
    refine aw_goto 52 dX5_shape_89 (by decide) ?_
    exact ih (i + 1) (by omega) (fun k k1 k2 => h k (by omega) k2) hk2
theorem sh_ref {d : Nat} (hd : 6 ≤ d) {M : xM} {s t n a : Nat} {W : Nat → Nat} {V : Nat → Int64} (hT : TC M) (hs : s < 12) (ht : t < 12) (hn : n ≤ 12) (hk : mI M (54 + 3 * t) 0 = nI a) (hW : ∀ k, k < n → mI M (54 + 3 * s + 1) k = nI (W k)) (hW12 : ∀ k, k < n → W k < 12) (hV : ∀ k, k < n → mL M (54 + 3 * s + 2) k = V k) (q : Nat) (hq : q < n) (hf : sX0_widens (nI a) (kin (W q) (V q)) = false) : ∀ (m i : Nat), i + m = q → (∀ k, i ≤ k → k < q → sX0_widens (nI a) (kin (W k) (V k)) = true) → AW (fX5_shape d) 52 [(7, .int (nI i)), (6, .int (nI n)), (5, .ref (54 + 3 * t)), (4, .ref (54 + 3 * s)), (3, .int 0), (0, .ref 0), (1, .int (nI s)), (2, .int (nI t))] [] M 0 0 (dt (some (.int (-9))) (tX5_report M (-9) (nI q))) := by
  intro m
  induction m with
  | zero =>
    intro i hi h
    obtain rfl : i = q := by omega
    refine aw_iload dX5_shape_52 0 rfl ?_
    refine aw_iload dX5_shape_54 1 rfl ?_
    refine aw_icmp_geN i n 92 dX5_shape_56 (by decide) rfl rfl (by omega) (by omega) (fun c1 => absurd c1 (by omega)) (fun c1 => ?_)
    refine aw_aload dX5_shape_59 2 rfl ?_
    refine aw_getI dX5_shape_61 fl_X5_98 (hT.row (t := t) (by omega)).1 (hT.row (t := t) (by omega)).n0 ?_
    refine aw_topE hk ?_
    refine aw_aload dX5_shape_64 3 rfl ?_
    refine aw_iload dX5_shape_66 0 rfl ?_
    refine aw_callSi [.ref (54 + 3 * s), .int (nI i)] [.int (nI a)] (sp_kis (d := d - 1) (by omega) i (W i) (V i) (hT.row hs) (by omega) (hW12 i (by omega)) (hW i (by omega)) (hV i (by omega))) dX5_shape_68 ml_X5_198 sm_X5_kindInSchema rfl (dl1 (d := d) (by omega)) rfl rfl (Nat.le_of_ble_eq_true rfl) rfl rfl (Nat.zero_le _) (Nat.zero_le _) ?_
    refine aw_callSi [.int (nI a), .int (kin (W i) (V i))] [] (sp_X0_widens (d := d - 1) (by omega) (nI a) (kin (W i) (V i))) dX5_shape_71 ml_X5_167 sm_X0_widens rfl (dl1 (d := d) (by omega)) rfl rfl (Nat.le_of_ble_eq_true rfl) rfl rfl (Nat.zero_le _) (Nat.zero_le _) ?_
    refine aw_if_ne 86 dX5_shape_74 (by decide) (fun c2 => absurd (bz_0.mpr hf) c2) (fun c2 => ?_)
    refine aw_aload_n dX5_shape_77 5 rfl ?_
    refine aw_bipush (v := -9) dX5_shape_78 (by decide) ?_
    refine aw_iload dX5_shape_80 0 rfl ?_
    refine aw_callVi [.int (-9), .int (nI i)] [] (sp_X5_report (d := d - 1) (by omega) (-9) (nI i) hT) dX5_shape_82 ml_X5_138 im_X5_report (hT.s 0 (by decide)) (hT.n 0 (by decide)) rfl rfl (dl1 (d := d) (by omega)) rfl rfl (Nat.le_of_ble_eq_true rfl) rfl rfl (Nat.zero_le _) (Nat.zero_le _) ?_
    refine aw_iret dX5_shape_85 rfl (Nat.zero_le _) (Nat.zero_le _) ?_
    exact ⟨rfl, rfl⟩
  | succ m ih =>
    intro i hi h
    have h0 := h i (by omega) (by omega)
    refine aw_iload dX5_shape_52 0 rfl ?_
    refine aw_iload dX5_shape_54 1 rfl ?_
    refine aw_icmp_geN i n 92 dX5_shape_56 (by decide) rfl rfl (by omega) (by omega) (fun c1 => absurd c1 (by omega)) (fun c1 => ?_)
    refine aw_aload dX5_shape_59 2 rfl ?_
    refine aw_getI dX5_shape_61 fl_X5_98 (hT.row (t := t) (by omega)).1 (hT.row (t := t) (by omega)).n0 ?_
    refine aw_topE hk ?_
    refine aw_aload dX5_shape_64 3 rfl ?_
    refine aw_iload dX5_shape_66 0 rfl ?_
    refine aw_callSi [.ref (54 + 3 * s), .int (nI i)] [.int (nI a)] (sp_kis (d := d - 1) (by omega) i (W i) (V i) (hT.row hs) (by omega) (hW12 i (by omega)) (hW i (by omega)) (hV i (by omega))) dX5_shape_68 ml_X5_198 sm_X5_kindInSchema rfl (dl1 (d := d) (by omega)) rfl rfl (Nat.le_of_ble_eq_true rfl) rfl rfl (Nat.zero_le _) (Nat.zero_le _) ?_
    refine aw_callSi [.int (nI a), .int (kin (W i) (V i))] [] (sp_X0_widens (d := d - 1) (by omega) (nI a) (kin (W i) (V i))) dX5_shape_71 ml_X5_167 sm_X0_widens rfl (dl1 (d := d) (by omega)) rfl rfl (Nat.le_of_ble_eq_true rfl) rfl rfl (Nat.zero_le _) (Nat.zero_le _) ?_
    refine aw_if_ne 86 dX5_shape_74 (by decide) (fun c2 => ?_) (fun c2 => absurd c2 (bz_n0.mpr h0))
    refine aw_iincN i 1 [(7, .int (nI (i + 1))), (6, .int (nI n)), (5, .ref (54 + 3 * t)), (4, .ref (54 + 3 * s)), (3, .int 0), (0, .ref 0), (1, .int (nI s)), (2, .int (nI t))] dX5_shape_86 0 rfl rfl rfl (Nat.le_of_ble_eq_true rfl) rfl ?_
    refine aw_goto 52 dX5_shape_89 (by decide) ?_
    exact ih (i + 1) (by omega) (fun k k1 k2 => h k (by omega) k2)
theorem sh_l2 {d : Nat} (hd : 6 ≤ d) {M : xM} {s t n a f : Nat} {W K : Nat → Nat} {V U T : Nat → Int64} (hT : TC M) (hs : s < 12) (ht : t < 12) (hn : n ≤ 12) (hk : mI M (54 + 3 * t) 0 = nI a) (hW : ∀ k, k < n → mI M (54 + 3 * s + 1) k = nI (W k)) (hW12 : ∀ k, k < n → W k < 12) (hV : ∀ k, k < n → mL M (54 + 3 * s + 2) k = V k) (hf : f < 12) (hsf : s ≠ f) (htf : t ≠ f) (ha : a < 8) (hK : ∀ k, k < n → kin (W k) (V k) = nI (K k) ∧ K k < 8) (hTt : ∀ k, k < n → mL M (54 + 3 * t + 2) k = T k) (hU : ∀ k, k < n → U k = wid a (K k) (T k)) (h6 : ∀ k, k < n → a = 6 → okF 6 (T k)) (h6U : ∀ k, k < n → K k = 6 → okF 6 (U k)) : ∀ (m i : Nat) (lv9 : List (Nat × Value)), i + m = n → AW (fX5_shape d) 128 ([(8, .int (nI i)), (7, .int (nI f)), (6, .int (nI n)), (5, .ref (54 + 3 * t)), (4, .ref (54 + 3 * s)), (3, .int 0), (0, .ref 0), (1, .int (nI s)), (2, .int (nI t))] ++ lv9) [] (cvX M f 12 n K U i) 0 0 (dt (some (.int (nI f))) (tX5_report (cvX M f 12 n K U n) 0 (-1))) := by
  intro m
  induction m with
  | zero =>
    intro i lv9 hi
    obtain rfl : i = n := by omega
    refine aw_sub [0, 1, 2, 3, 4, 5, 6, 7, 8] rfl ?_
    refine aw_iload dX5_shape_128 0 rfl ?_
    refine aw_iload dX5_shape_130 2 rfl ?_
    refine aw_icmp_geN i i 182 dX5_shape_132 (by decide) rfl rfl (by omega) (by omega) (fun c1 => ?_) (fun c1 => absurd (by omega) c1)
    refine aw_aload_n dX5_shape_182 6 rfl ?_
    refine aw_iconst (v := 0) dX5_shape_183 (by decide) ?_
    refine aw_iconst (v := -1) dX5_shape_184 (by decide) ?_
    refine aw_callVi [.int 0, .int (-1)] [] (sp_X5_report (d := d - 1) (by omega) 0 (-1) ((sT_cvX M f 12 i K U i).TC hT)) dX5_shape_185 ml_X5_138 im_X5_report (((sT_cvX M f 12 i K U i).TC hT).s 0 (by decide)) (((sT_cvX M f 12 i K U i).TC hT).n 0 (by decide)) rfl rfl (dl1 (d := d) (by omega)) rfl rfl (Nat.le_of_ble_eq_true rfl) rfl rfl (Nat.zero_le _) (Nat.zero_le _) ?_
    refine aw_pop dX5_shape_188 rfl ?_
    refine aw_iload dX5_shape_189 1 rfl ?_
    refine aw_iret dX5_shape_191 rfl (Nat.zero_le _) (Nat.zero_le _) ?_
    exact ⟨rfl, rfl⟩
  | succ m ih =>
    intro i lv9 hi
    have eW : mI (cvX M f 12 n K U i) (54 + 3 * s + 1) i = nI (W i) := (congrFun (cvX_I M f 12 n K U i (by omega) (by omega)) i).trans (hW i (by omega))
    have eV : mL (cvX M f 12 n K U i) (54 + 3 * s + 2) i = V i := (congrFun (cvX_L M f 12 n K U i (by omega)) i).trans (hV i (by omega))
    have eT : mL (cvX M f 12 n K U i) (54 + 3 * t + 2) i = T i := (congrFun (cvX_L M f 12 n K U i (by omega)) i).trans (hTt i (by omega))
    have ek : mI (cvX M f 12 n K U i) (54 + 3 * t) 0 = nI a := (congrFun (cvX_I M f 12 n K U i (by omega) (by omega)) 0).trans hk
    have eK : mI (cvX M f 12 n K U i) (54 + 3 * f) 0 = nI 12 := by rw [cvX_R, beaM_0]
    have hTX := (sT_cvX M f 12 n K U i).TC hT
    obtain ⟨k1, k2⟩ := hK i (by omega)
    refine aw_sub [0, 1, 2, 3, 4, 5, 6, 7, 8] rfl ?_
    refine aw_iload dX5_shape_128 0 rfl ?_
    refine aw_iload dX5_shape_130 2 rfl ?_
    refine aw_icmp_geN i n 182 dX5_shape_132 (by decide) rfl rfl (by omega) (by omega) (fun c1 => absurd c1 (by omega)) (fun c1 => ?_)
    refine aw_aload dX5_shape_135 4 rfl ?_
    refine aw_iload dX5_shape_137 0 rfl ?_
    refine aw_callSi [.ref (54 + 3 * s), .int (nI i)] [] (sp_kis (d := d - 1) (by omega) i (W i) (V i) (hTX.row hs) (by omega) (hW12 i (by omega)) eW eV) dX5_shape_139 ml_X5_198 sm_X5_kindInSchema rfl (dl1 (d := d) (by omega)) rfl rfl (Nat.le_of_ble_eq_true rfl) rfl rfl (Nat.zero_le _) (Nat.zero_le _) ?_
    refine aw_topE k1 ?_
    refine aw_istore [(9, .int (nI (K i))), (8, .int (nI i)), (7, .int (nI f)), (6, .int (nI n)), (5, .ref (54 + 3 * t)), (4, .ref (54 + 3 * s)), (3, .int 0), (0, .ref 0), (1, .int (nI s)), (2, .int (nI t))] dX5_shape_142 (Nat.le_of_ble_eq_true rfl) rfl ?_
    refine aw_aload_n dX5_shape_144 7 rfl ?_
    refine aw_getR (b := 1) dX5_shape_145 fl_X5_11 rfl (hTX.s 0 (by decide)) (hTX.n 0 (by decide)) (hTX.r 0 0 (by decide) (by decide)) ?_
    refine aw_iload dX5_shape_148 2 rfl ?_
    refine aw_aaldN f (54 + 3 * f) dX5_shape_150 (hTX.s 1 (by decide)) (hTX.n 1 (by decide)) rfl (by omega) (by first | decide | omega) (hTX.slot (by omega)) ?_
    refine aw_iload dX5_shape_151 1 rfl ?_
    refine aw_iload dX5_shape_153 0 rfl ?_
    refine aw_aload dX5_shape_155 4 rfl ?_
    refine aw_getI dX5_shape_157 fl_X5_98 (hTX.row (t := t) (by omega)).1 (hTX.row (t := t) (by omega)).n0 ?_
    refine aw_topE ek ?_
    refine aw_iload dX5_shape_160 0 rfl ?_
    refine aw_aload dX5_shape_162 4 rfl ?_
    refine aw_getR (b := (54 + 3 * t) + 2) dX5_shape_164 fl_X5_142 rfl (hTX.row (t := t) (by omega)).1 (hTX.row (t := t) (by omega)).n0 (hTX.row (t := t) (by omega)).2.2.2.2.1 ?_
    refine aw_iload dX5_shape_167 1 rfl ?_
    refine aw_laldN i dX5_shape_169 (hTX.row (t := t) (by omega)).2.2.1 (hTX.row (t := t) (by omega)).n2 rfl (by omega) (by first | decide | omega) ?_
    refine aw_toplE eT ?_
    refine aw_callSl [.int (nI a), .int (nI (K i)), .long (T i)] [.int (nI (K i)), .int (nI i), .ref (54 + 3 * f)] (sp_X0_widened (d := d - 1) (by omega) a (K i) ha k2 (T i) (h6 i (by omega))) dX5_shape_170 ml_X5_146 sm_X0_widened rfl (dl1 (d := d) (by omega)) rfl rfl (Nat.le_of_ble_eq_true rfl) rfl rfl (Nat.zero_le _) (Nat.zero_le _) ?_
    refine aw_toplE (hU i (by omega)).symm ?_
    refine aw_callVv [.int (nI i), .int (nI (K i)), .long (U i)] [] (sp_X2_hold (d := d - 1) (by omega) i 12 (K i) (U i) (hTX.row hf) (by omega) (by decide) eK (fun z => absurd z (by decide)) (h6U i (by omega))) dX5_shape_173 ml_X5_160 im_X2_hold (hTX.row (t := f) (by omega)).1 (hTX.row (t := f) (by omega)).n0 rfl rfl (dl1 (d := d) (by omega)) rfl rfl (Nat.le_of_ble_eq_true rfl) rfl rfl (Nat.zero_le _) (Nat.zero_le _) ?_
    refine aw_iincN i 1 [(8, .int (nI (i + 1))), (9, .int (nI (K i))), (7, .int (nI f)), (6, .int (nI n)), (5, .ref (54 + 3 * t)), (4, .ref (54 + 3 * s)), (3, .int 0), (0, .ref 0), (1, .int (nI s)), (2, .int (nI t))] dX5_shape_176 1 rfl rfl rfl (Nat.le_of_ble_eq_true rfl) rfl ?_
    refine aw_goto 128 dX5_shape_179 (by decide) ?_
    refine aw_sub [0, 2, 3, 4, 5, 6, 7, 8, 9, 1] rfl ?_
    refine aw_eqM (show _ = cvX M f 12 n K U (i + 1) from flIL_s0 _ _ _ i _ _ rfl rfl) ?_
    exact ih (i + 1) [(9, .int (nI (K i)))] (by omega)
theorem sp_X5_shape_k {d : Nat} (hd : 6 ≤ d) {M : xM} {s t n a zs zt : Nat} {W : Nat → Nat} {V : Nat → Int64} (hzs : mI M (54 + 3 * s) 1 = nI zs) (hzt : mI M (54 + 3 * t) 1 = nI zt) (hz1 : zs ≤ 12) (hz2 : zt ≤ 12) (hm : n = min zs zt) (he : sX5_shapeError M (nI s) (nI t) = 0) (hT : TC M) (hs : s < 12) (ht : t < 12) (hn : n ≤ 12) (hk : mI M (54 + 3 * t) 0 = nI a) (hW : ∀ k, k < n → mI M (54 + 3 * s + 1) k = nI (W k)) (hW12 : ∀ k, k < n → W k < 12) (hV : ∀ k, k < n → mL M (54 + 3 * s + 2) k = V k) (q : Nat) (hq : q < n) (hf : sX0_widens (nI a) (kin (W q) (V q)) = false) (h : ∀ k, k < q → sX0_widens (nI a) (kin (W k) (V k)) = true) : Sp (fX5_shape d) [.ref 0, .int (nI s), .int (nI t)] M (dt (some (.int (-9))) (tX5_report M (-9) (nI q))) := by
  refine Sp.of pn_X5 (Nat.le_of_ble_eq_true rfl) (fun h => Bool.noConfusion h) ?_
  refine aw_aload_n dX5_shape_0 0 rfl ?_
  refine aw_iload_n dX5_shape_1 1 rfl ?_
  refine aw_iload_n dX5_shape_2 2 rfl ?_
  refine aw_callVi [.int (nI s), .int (nI t)] [] (sp_X5_shapeError (d := d - 1) (by omega) (nI s) (nI t) hT) dX5_shape_3 ml_X5_190 im_X5_shapeError (hT.s 0 (by decide)) (hT.n 0 (by decide)) rfl rfl (dl1 (d := d) (by omega)) rfl rfl (Nat.le_of_ble_eq_true rfl) rfl rfl (Nat.zero_le _) (Nat.zero_le _) ?_
  refine aw_topE he ?_
  refine aw_istore_n [(3, .int 0), (0, .ref 0), (1, .int (nI s)), (2, .int (nI t))] dX5_shape_6 (Nat.le_of_ble_eq_true rfl) rfl ?_
  refine aw_iload_n dX5_shape_7 0 rfl ?_
  refine aw_if_eq 18 dX5_shape_8 (by decide) (fun c1 => ?_) (fun c1 => absurd rfl c1)
  refine aw_aload_n dX5_shape_18 1 rfl ?_
  refine aw_getR (b := 1) dX5_shape_19 fl_X5_11 rfl (hT.s 0 (by decide)) (hT.n 0 (by decide)) (hT.r 0 0 (by decide) (by decide)) ?_
  refine aw_iload_n dX5_shape_22 2 rfl ?_
  refine aw_aaldN s (54 + 3 * s) dX5_shape_23 (hT.s 1 (by decide)) (hT.n 1 (by decide)) rfl (by omega) (by first | decide | omega) (hT.slot (by omega)) ?_
  refine aw_astore [(4, .ref (54 + 3 * s)), (3, .int 0), (0, .ref 0), (1, .int (nI s)), (2, .int (nI t))] dX5_shape_24 (Nat.le_of_ble_eq_true rfl) rfl ?_
  refine aw_aload_n dX5_shape_26 2 rfl ?_
  refine aw_getR (b := 1) dX5_shape_27 fl_X5_11 rfl (hT.s 0 (by decide)) (hT.n 0 (by decide)) (hT.r 0 0 (by decide) (by decide)) ?_
  refine aw_iload_n dX5_shape_30 4 rfl ?_
  refine aw_aaldN t (54 + 3 * t) dX5_shape_31 (hT.s 1 (by decide)) (hT.n 1 (by decide)) rfl (by omega) (by first | decide | omega) (hT.slot (by omega)) ?_
  refine aw_astore [(5, .ref (54 + 3 * t)), (4, .ref (54 + 3 * s)), (3, .int 0), (0, .ref 0), (1, .int (nI s)), (2, .int (nI t))] dX5_shape_32 (Nat.le_of_ble_eq_true rfl) rfl ?_
  refine aw_aload dX5_shape_34 1 rfl ?_
  refine aw_getI dX5_shape_36 fl_X5_104 (hT.row (t := s) (by omega)).1 (hT.row (t := s) (by omega)).n0 ?_
  refine aw_topE hzs ?_
  refine aw_aload dX5_shape_39 0 rfl ?_
  refine aw_getI dX5_shape_41 fl_X5_104 (hT.row (t := t) (by omega)).1 (hT.row (t := t) (by omega)).n0 ?_
  refine aw_topE hzt ?_
  refine aw_mmin dX5_shape_44 mm_X5_193 mm_mins in_J9 mm_minc (show 1 ≤ d by omega) (Nat.le_of_ble_eq_true rfl) (Nat.zero_le _) (Nat.zero_le _) ?_
  refine aw_topE (show _ = nI n by rw [hm]; exact min_N hz1 hz2) ?_
  refine aw_istore [(6, .int (nI n)), (5, .ref (54 + 3 * t)), (4, .ref (54 + 3 * s)), (3, .int 0), (0, .ref 0), (1, .int (nI s)), (2, .int (nI t))] dX5_shape_47 (Nat.le_of_ble_eq_true rfl) rfl ?_
  refine aw_iconst (v := 0) dX5_shape_49 (by decide) ?_
  refine aw_istore [(7, .int 0), (6, .int (nI n)), (5, .ref (54 + 3 * t)), (4, .ref (54 + 3 * s)), (3, .int 0), (0, .ref 0), (1, .int (nI s)), (2, .int (nI t))] dX5_shape_50 (Nat.le_of_ble_eq_true rfl) rfl ?_
  exact sh_ref hd hT hs ht hn hk hW hW12 hV q hq hf q 0 (by omega) (fun k _ k2 => h k k2)
theorem sp_X5_shape_f {d : Nat} (hd : 6 ≤ d) {M : xM} {s t n a zs zt : Nat} {W : Nat → Nat} {V : Nat → Int64} (hzs : mI M (54 + 3 * s) 1 = nI zs) (hzt : mI M (54 + 3 * t) 1 = nI zt) (hz1 : zs ≤ 12) (hz2 : zt ≤ 12) (hm : n = min zs zt) (he : sX5_shapeError M (nI s) (nI t) = 0) (hT : TC M) (hs : s < 12) (ht : t < 12) (hn : n ≤ 12) (hk : mI M (54 + 3 * t) 0 = nI a) (hW : ∀ k, k < n → mI M (54 + 3 * s + 1) k = nI (W k)) (hW12 : ∀ k, k < n → W k < 12) (hV : ∀ k, k < n → mL M (54 + 3 * s + 2) k = V k) (h : ∀ k, k < n → sX0_widens (nI a) (kin (W k) (V k)) = true) (hl : sX5_lowestEmpty M = -1) : Sp (fX5_shape d) [.ref 0, .int (nI s), .int (nI t)] M (dt (some (.int (-3))) (tX5_report M (-3) (-1))) := by
  refine Sp.of pn_X5 (Nat.le_of_ble_eq_true rfl) (fun h => Bool.noConfusion h) ?_
  refine aw_aload_n dX5_shape_0 0 rfl ?_
  refine aw_iload_n dX5_shape_1 1 rfl ?_
  refine aw_iload_n dX5_shape_2 2 rfl ?_
  refine aw_callVi [.int (nI s), .int (nI t)] [] (sp_X5_shapeError (d := d - 1) (by omega) (nI s) (nI t) hT) dX5_shape_3 ml_X5_190 im_X5_shapeError (hT.s 0 (by decide)) (hT.n 0 (by decide)) rfl rfl (dl1 (d := d) (by omega)) rfl rfl (Nat.le_of_ble_eq_true rfl) rfl rfl (Nat.zero_le _) (Nat.zero_le _) ?_
  refine aw_topE he ?_
  refine aw_istore_n [(3, .int 0), (0, .ref 0), (1, .int (nI s)), (2, .int (nI t))] dX5_shape_6 (Nat.le_of_ble_eq_true rfl) rfl ?_
  refine aw_iload_n dX5_shape_7 0 rfl ?_
  refine aw_if_eq 18 dX5_shape_8 (by decide) (fun c1 => ?_) (fun c1 => absurd rfl c1)
  refine aw_aload_n dX5_shape_18 1 rfl ?_
  refine aw_getR (b := 1) dX5_shape_19 fl_X5_11 rfl (hT.s 0 (by decide)) (hT.n 0 (by decide)) (hT.r 0 0 (by decide) (by decide)) ?_
  refine aw_iload_n dX5_shape_22 2 rfl ?_
  refine aw_aaldN s (54 + 3 * s) dX5_shape_23 (hT.s 1 (by decide)) (hT.n 1 (by decide)) rfl (by omega) (by first | decide | omega) (hT.slot (by omega)) ?_
  refine aw_astore [(4, .ref (54 + 3 * s)), (3, .int 0), (0, .ref 0), (1, .int (nI s)), (2, .int (nI t))] dX5_shape_24 (Nat.le_of_ble_eq_true rfl) rfl ?_
  refine aw_aload_n dX5_shape_26 2 rfl ?_
  refine aw_getR (b := 1) dX5_shape_27 fl_X5_11 rfl (hT.s 0 (by decide)) (hT.n 0 (by decide)) (hT.r 0 0 (by decide) (by decide)) ?_
  refine aw_iload_n dX5_shape_30 4 rfl ?_
  refine aw_aaldN t (54 + 3 * t) dX5_shape_31 (hT.s 1 (by decide)) (hT.n 1 (by decide)) rfl (by omega) (by first | decide | omega) (hT.slot (by omega)) ?_
  refine aw_astore [(5, .ref (54 + 3 * t)), (4, .ref (54 + 3 * s)), (3, .int 0), (0, .ref 0), (1, .int (nI s)), (2, .int (nI t))] dX5_shape_32 (Nat.le_of_ble_eq_true rfl) rfl ?_
  refine aw_aload dX5_shape_34 1 rfl ?_
  refine aw_getI dX5_shape_36 fl_X5_104 (hT.row (t := s) (by omega)).1 (hT.row (t := s) (by omega)).n0 ?_
  refine aw_topE hzs ?_
  refine aw_aload dX5_shape_39 0 rfl ?_
  refine aw_getI dX5_shape_41 fl_X5_104 (hT.row (t := t) (by omega)).1 (hT.row (t := t) (by omega)).n0 ?_
  refine aw_topE hzt ?_
  refine aw_mmin dX5_shape_44 mm_X5_193 mm_mins in_J9 mm_minc (show 1 ≤ d by omega) (Nat.le_of_ble_eq_true rfl) (Nat.zero_le _) (Nat.zero_le _) ?_
  refine aw_topE (show _ = nI n by rw [hm]; exact min_N hz1 hz2) ?_
  refine aw_istore [(6, .int (nI n)), (5, .ref (54 + 3 * t)), (4, .ref (54 + 3 * s)), (3, .int 0), (0, .ref 0), (1, .int (nI s)), (2, .int (nI t))] dX5_shape_47 (Nat.le_of_ble_eq_true rfl) rfl ?_
  refine aw_iconst (v := 0) dX5_shape_49 (by decide) ?_
  refine aw_istore [(7, .int 0), (6, .int (nI n)), (5, .ref (54 + 3 * t)), (4, .ref (54 + 3 * s)), (3, .int 0), (0, .ref 0), (1, .int (nI s)), (2, .int (nI t))] dX5_shape_50 (Nat.le_of_ble_eq_true rfl) rfl ?_
  refine sh_all hd hT hs ht hn hk hW hW12 hV n 0 (by omega) (fun k _ k2 => h k k2) ?_
  refine aw_aload_n dX5_shape_92 5 rfl ?_
  refine aw_callVi [] [] (sp_X5_lowestEmpty (d := d - 1) (by omega) hT) dX5_shape_93 ml_X5_82 im_X5_lowestEmpty (hT.s 0 (by decide)) (hT.n 0 (by decide)) rfl rfl (dl1 (d := d) (by omega)) rfl rfl (Nat.le_of_ble_eq_true rfl) rfl rfl (Nat.zero_le _) (Nat.zero_le _) ?_
  refine aw_topE hl ?_
  refine aw_istore [(7, .int (-1)), (6, .int (nI n)), (5, .ref (54 + 3 * t)), (4, .ref (54 + 3 * s)), (3, .int 0), (0, .ref 0), (1, .int (nI s)), (2, .int (nI t))] dX5_shape_96 (Nat.le_of_ble_eq_true rfl) rfl ?_
  refine aw_iload dX5_shape_98 0 rfl ?_
  refine aw_if_ge 111 dX5_shape_100 (by decide) (fun c1 => absurd c1 (by decide)) (fun c1 => ?_)
  refine aw_aload_n dX5_shape_103 5 rfl ?_
  refine aw_bipush (v := -3) dX5_shape_104 (by decide) ?_
  refine aw_iconst (v := -1) dX5_shape_106 (by decide) ?_
  refine aw_callVi [.int (-3), .int (-1)] [] (sp_X5_report (d := d - 1) (by omega) (-3) (-1) hT) dX5_shape_107 ml_X5_138 im_X5_report (hT.s 0 (by decide)) (hT.n 0 (by decide)) rfl rfl (dl1 (d := d) (by omega)) rfl rfl (Nat.le_of_ble_eq_true rfl) rfl rfl (Nat.zero_le _) (Nat.zero_le _) ?_
  refine aw_iret dX5_shape_110 rfl (Nat.zero_le _) (Nat.zero_le _) ?_
  exact ⟨rfl, rfl⟩
theorem sp_X5_shape_ok {d : Nat} (hd : 6 ≤ d) {M : xM} {s t n a zs zt : Nat} {W : Nat → Nat} {V : Nat → Int64} (hzs : mI M (54 + 3 * s) 1 = nI zs) (hzt : mI M (54 + 3 * t) 1 = nI zt) (hz1 : zs ≤ 12) (hz2 : zt ≤ 12) (hm : n = min zs zt) (he : sX5_shapeError M (nI s) (nI t) = 0) (hT : TC M) (hs : s < 12) (ht : t < 12) (hn : n ≤ 12) (hk : mI M (54 + 3 * t) 0 = nI a) (hW : ∀ k, k < n → mI M (54 + 3 * s + 1) k = nI (W k)) (hW12 : ∀ k, k < n → W k < 12) (hV : ∀ k, k < n → mL M (54 + 3 * s + 2) k = V k) (h : ∀ k, k < n → sX0_widens (nI a) (kin (W k) (V k)) = true) {K : Nat → Nat} {U T : Nat → Int64} (f : Nat) (hf : f < 12) (hl : sX5_lowestEmpty M = nI f) (hsf : s ≠ f) (htf : t ≠ f) (ha : a < 8) (hK : ∀ k, k < n → kin (W k) (V k) = nI (K k) ∧ K k < 8) (hTt : ∀ k, k < n → mL M (54 + 3 * t + 2) k = T k) (hU : ∀ k, k < n → U k = wid a (K k) (T k)) (h6 : ∀ k, k < n → a = 6 → okF 6 (T k)) (h6U : ∀ k, k < n → K k = 6 → okF 6 (U k)) : Sp (fX5_shape d) [.ref 0, .int (nI s), .int (nI t)] M (dt (some (.int (nI f))) (tX5_report (cvX M f 12 n K U n) 0 (-1))) := by
  refine Sp.of pn_X5 (Nat.le_of_ble_eq_true rfl) (fun h => Bool.noConfusion h) ?_
  refine aw_aload_n dX5_shape_0 0 rfl ?_
  refine aw_iload_n dX5_shape_1 1 rfl ?_
  refine aw_iload_n dX5_shape_2 2 rfl ?_
  refine aw_callVi [.int (nI s), .int (nI t)] [] (sp_X5_shapeError (d := d - 1) (by omega) (nI s) (nI t) hT) dX5_shape_3 ml_X5_190 im_X5_shapeError (hT.s 0 (by decide)) (hT.n 0 (by decide)) rfl rfl (dl1 (d := d) (by omega)) rfl rfl (Nat.le_of_ble_eq_true rfl) rfl rfl (Nat.zero_le _) (Nat.zero_le _) ?_
  refine aw_topE he ?_
  refine aw_istore_n [(3, .int 0), (0, .ref 0), (1, .int (nI s)), (2, .int (nI t))] dX5_shape_6 (Nat.le_of_ble_eq_true rfl) rfl ?_
  refine aw_iload_n dX5_shape_7 0 rfl ?_
  refine aw_if_eq 18 dX5_shape_8 (by decide) (fun c1 => ?_) (fun c1 => absurd rfl c1)
  refine aw_aload_n dX5_shape_18 1 rfl ?_
  refine aw_getR (b := 1) dX5_shape_19 fl_X5_11 rfl (hT.s 0 (by decide)) (hT.n 0 (by decide)) (hT.r 0 0 (by decide) (by decide)) ?_
  refine aw_iload_n dX5_shape_22 2 rfl ?_
  refine aw_aaldN s (54 + 3 * s) dX5_shape_23 (hT.s 1 (by decide)) (hT.n 1 (by decide)) rfl (by omega) (by first | decide | omega) (hT.slot (by omega)) ?_
  refine aw_astore [(4, .ref (54 + 3 * s)), (3, .int 0), (0, .ref 0), (1, .int (nI s)), (2, .int (nI t))] dX5_shape_24 (Nat.le_of_ble_eq_true rfl) rfl ?_
  refine aw_aload_n dX5_shape_26 2 rfl ?_
  refine aw_getR (b := 1) dX5_shape_27 fl_X5_11 rfl (hT.s 0 (by decide)) (hT.n 0 (by decide)) (hT.r 0 0 (by decide) (by decide)) ?_
  refine aw_iload_n dX5_shape_30 4 rfl ?_
  refine aw_aaldN t (54 + 3 * t) dX5_shape_31 (hT.s 1 (by decide)) (hT.n 1 (by decide)) rfl (by omega) (by first | decide | omega) (hT.slot (by omega)) ?_
  refine aw_astore [(5, .ref (54 + 3 * t)), (4, .ref (54 + 3 * s)), (3, .int 0), (0, .ref 0), (1, .int (nI s)), (2, .int (nI t))] dX5_shape_32 (Nat.le_of_ble_eq_true rfl) rfl ?_
  refine aw_aload dX5_shape_34 1 rfl ?_
  refine aw_getI dX5_shape_36 fl_X5_104 (hT.row (t := s) (by omega)).1 (hT.row (t := s) (by omega)).n0 ?_
  refine aw_topE hzs ?_
  refine aw_aload dX5_shape_39 0 rfl ?_
  refine aw_getI dX5_shape_41 fl_X5_104 (hT.row (t := t) (by omega)).1 (hT.row (t := t) (by omega)).n0 ?_
  refine aw_topE hzt ?_
  refine aw_mmin dX5_shape_44 mm_X5_193 mm_mins in_J9 mm_minc (show 1 ≤ d by omega) (Nat.le_of_ble_eq_true rfl) (Nat.zero_le _) (Nat.zero_le _) ?_
  refine aw_topE (show _ = nI n by rw [hm]; exact min_N hz1 hz2) ?_
  refine aw_istore [(6, .int (nI n)), (5, .ref (54 + 3 * t)), (4, .ref (54 + 3 * s)), (3, .int 0), (0, .ref 0), (1, .int (nI s)), (2, .int (nI t))] dX5_shape_47 (Nat.le_of_ble_eq_true rfl) rfl ?_
  refine aw_iconst (v := 0) dX5_shape_49 (by decide) ?_
  refine aw_istore [(7, .int 0), (6, .int (nI n)), (5, .ref (54 + 3 * t)), (4, .ref (54 + 3 * s)), (3, .int 0), (0, .ref 0), (1, .int (nI s)), (2, .int (nI t))] dX5_shape_50 (Nat.le_of_ble_eq_true rfl) rfl ?_
  refine sh_all hd hT hs ht hn hk hW hW12 hV n 0 (by omega) (fun k _ k2 => h k k2) ?_
  refine aw_aload_n dX5_shape_92 5 rfl ?_
  refine aw_callVi [] [] (sp_X5_lowestEmpty (d := d - 1) (by omega) hT) dX5_shape_93 ml_X5_82 im_X5_lowestEmpty (hT.s 0 (by decide)) (hT.n 0 (by decide)) rfl rfl (dl1 (d := d) (by omega)) rfl rfl (Nat.le_of_ble_eq_true rfl) rfl rfl (Nat.zero_le _) (Nat.zero_le _) ?_
  refine aw_topE hl ?_
  refine aw_istore [(7, .int (nI f)), (6, .int (nI n)), (5, .ref (54 + 3 * t)), (4, .ref (54 + 3 * s)), (3, .int 0), (0, .ref 0), (1, .int (nI s)), (2, .int (nI t))] dX5_shape_96 (Nat.le_of_ble_eq_true rfl) rfl ?_
  refine aw_iload dX5_shape_98 0 rfl ?_
  refine aw_if_ge 111 dX5_shape_100 (by decide) (fun c1 => ?_) (fun c1 => absurd ((by decide : ∀ f, f < 12 → 0 ≤ nI f) f hf) c1)
  refine aw_aload_n dX5_shape_111 5 rfl ?_
  refine aw_getR (b := 1) dX5_shape_112 fl_X5_11 rfl (hT.s 0 (by decide)) (hT.n 0 (by decide)) (hT.r 0 0 (by decide) (by decide)) ?_
  refine aw_iload dX5_shape_115 0 rfl ?_
  refine aw_aaldN f (54 + 3 * f) dX5_shape_117 (hT.s 1 (by decide)) (hT.n 1 (by decide)) rfl (by omega) (by first | decide | omega) (hT.slot (by omega)) ?_
  refine aw_bipush (v := 12) dX5_shape_118 (by decide) ?_
  refine aw_iload dX5_shape_120 1 rfl ?_
  refine aw_callVv [.int 12, .int (nI n)] [] (sp_X2_beArray (d := d - 1) (by omega) (nI 12) n (hT.row hf) hn) dX5_shape_122 ml_X5_90 im_X2_beArray (hT.row (t := f) (by omega)).1 (hT.row (t := f) (by omega)).n0 rfl rfl (dl1 (d := d) (by omega)) rfl rfl (Nat.le_of_ble_eq_true rfl) rfl rfl (Nat.zero_le _) (Nat.zero_le _) ?_
  refine aw_iconst (v := 0) dX5_shape_125 (by decide) ?_
  refine aw_istore [(8, .int 0), (7, .int (nI f)), (6, .int (nI n)), (5, .ref (54 + 3 * t)), (4, .ref (54 + 3 * s)), (3, .int 0), (0, .ref 0), (1, .int (nI s)), (2, .int (nI t))] dX5_shape_126 (Nat.le_of_ble_eq_true rfl) rfl ?_
  refine aw_eqM (show _ = cvX M f 12 n K U 0 from (flIL_0 _ _ _ _ _ _ _).symm) ?_
  exact sh_l2 hd hT hs ht hn hk hW hW12 hV hf hsf htf ha hK hTt hU h6 h6U n 0 [] (by omega)
theorem sp_X6_shape_bad {d : Nat} (hd : 3 ≤ d) {M : xM} (x1 x2 : Int32) (hT : TR M) (h : sX6_isThing x1.toInt64 = false ∨ (sX6_isThing x1.toInt64 = true ∧ sX6_isThing x2.toInt64 = false)) : Sp (fX6_shape d) [.ref 0, .int x1, .int x2] M (dt (some (.int (-1))) (tX6_tells M (-1) (-1))) := by
  refine Sp.of pn_X6 (Nat.le_of_ble_eq_true rfl) (fun h => Bool.noConfusion h) ?_
  rcases h with h | ⟨h, h2⟩
  · refine aw_iload_n dX6_shape_0 1 rfl ?_
    refine aw_i2l dX6_shape_1 ?_
    refine aw_callSi [.long (Int32.toInt64 x1)] [] (sp_X6_isThing (d := d - 1) (by omega) (Int32.toInt64 x1) ) dX6_shape_2 ml_X6_159 sm_X6_isThing rfl (dl1 (d := d) (by omega)) rfl rfl (Nat.le_of_ble_eq_true rfl) rfl rfl (Nat.zero_le _) (Nat.zero_le _) ?_
    refine aw_if_eq 16 dX6_shape_5 (by decide) (fun c1 => ?_) (fun c1 => absurd (bz_0.mpr h) c1)
    refine aw_aload_n dX6_shape_16 0 rfl ?_
    refine aw_iconst (v := -1) dX6_shape_17 (by decide) ?_
    refine aw_iconst (v := -1) dX6_shape_18 (by decide) ?_
    refine aw_callVi [.int (-1), .int (-1)] [] (sp_X6_tells (d := d - 1) (by omega) (-1) (-1) hT) dX6_shape_19 ml_X6_192 im_X6_tells (hT.s 0 (by decide)) (hT.n 0 (by decide)) rfl rfl (dl1 (d := d) (by omega)) rfl rfl (Nat.le_of_ble_eq_true rfl) rfl rfl (Nat.zero_le _) (Nat.zero_le _) ?_
    refine aw_iret dX6_shape_22 rfl (Nat.zero_le _) (Nat.zero_le _) ?_
    exact ⟨rfl, rfl⟩
  · refine aw_iload_n dX6_shape_0 1 rfl ?_
    refine aw_i2l dX6_shape_1 ?_
    refine aw_callSi [.long (Int32.toInt64 x1)] [] (sp_X6_isThing (d := d - 1) (by omega) (Int32.toInt64 x1) ) dX6_shape_2 ml_X6_159 sm_X6_isThing rfl (dl1 (d := d) (by omega)) rfl rfl (Nat.le_of_ble_eq_true rfl) rfl rfl (Nat.zero_le _) (Nat.zero_le _) ?_
    refine aw_if_eq 16 dX6_shape_5 (by decide) (fun c1 => absurd c1 (bz_n0.mpr h)) (fun c1 => ?_)
    refine aw_iload_n dX6_shape_8 2 rfl ?_
    refine aw_i2l dX6_shape_9 ?_
    refine aw_callSi [.long (Int32.toInt64 x2)] [] (sp_X6_isThing (d := d - 1) (by omega) (Int32.toInt64 x2) ) dX6_shape_10 ml_X6_159 sm_X6_isThing rfl (dl1 (d := d) (by omega)) rfl rfl (Nat.le_of_ble_eq_true rfl) rfl rfl (Nat.zero_le _) (Nat.zero_le _) ?_
    refine aw_if_ne 23 dX6_shape_13 (by decide) (fun c2 => absurd (bz_0.mpr h2) c2) (fun c2 => ?_)
    refine aw_aload_n dX6_shape_16 0 rfl ?_
    refine aw_iconst (v := -1) dX6_shape_17 (by decide) ?_
    refine aw_iconst (v := -1) dX6_shape_18 (by decide) ?_
    refine aw_callVi [.int (-1), .int (-1)] [] (sp_X6_tells (d := d - 1) (by omega) (-1) (-1) hT) dX6_shape_19 ml_X6_192 im_X6_tells (hT.s 0 (by decide)) (hT.n 0 (by decide)) rfl rfl (dl1 (d := d) (by omega)) rfl rfl (Nat.le_of_ble_eq_true rfl) rfl rfl (Nat.zero_le _) (Nat.zero_le _) ?_
    refine aw_iret dX6_shape_22 rfl (Nat.zero_le _) (Nat.zero_le _) ?_
    exact ⟨rfl, rfl⟩
theorem sp_X6_shape_e {d : Nat} (hd : 3 ≤ d) {M : xM} (s t : Nat) (hT : TR M) (hs : s < 12) (ht : t < 12) (h1 : sX6_isThing (lN s) = true) (h2 : sX6_isThing (lN t) = true) (e : Int32) (h3 : sX6_refusalOfTwo M (nI s) (nI t) = e) (he : e < 0) : Sp (fX6_shape d) [.ref 0, .int (nI s), .int (nI t)] M (dt (some (.int e)) (tX6_tells M e (-1))) := by
  refine Sp.of pn_X6 (Nat.le_of_ble_eq_true rfl) (fun h => Bool.noConfusion h) ?_
  refine aw_iload_n dX6_shape_0 1 rfl ?_
  refine aw_i2lN s dX6_shape_1 rfl (by omega) ?_
  refine aw_callSi [.long (lN s)] [] (sp_X6_isThing (d := d - 1) (by omega) (lN s) ) dX6_shape_2 ml_X6_159 sm_X6_isThing rfl (dl1 (d := d) (by omega)) rfl rfl (Nat.le_of_ble_eq_true rfl) rfl rfl (Nat.zero_le _) (Nat.zero_le _) ?_
  refine aw_if_eq 16 dX6_shape_5 (by decide) (fun c1 => absurd c1 (bz_n0.mpr h1)) (fun c1 => ?_)
  refine aw_iload_n dX6_shape_8 2 rfl ?_
  refine aw_i2lN t dX6_shape_9 rfl (by omega) ?_
  refine aw_callSi [.long (lN t)] [] (sp_X6_isThing (d := d - 1) (by omega) (lN t) ) dX6_shape_10 ml_X6_159 sm_X6_isThing rfl (dl1 (d := d) (by omega)) rfl rfl (Nat.le_of_ble_eq_true rfl) rfl rfl (Nat.zero_le _) (Nat.zero_le _) ?_
  refine aw_if_ne 23 dX6_shape_13 (by decide) (fun c2 => ?_) (fun c2 => absurd c2 (bz_n0.mpr h2))
  refine aw_aload_n dX6_shape_23 0 rfl ?_
  refine aw_iload_n dX6_shape_24 1 rfl ?_
  refine aw_iload_n dX6_shape_25 2 rfl ?_
  refine aw_callVi [.int (nI s), .int (nI t)] [] (sp_X6_refusalOfTwo (d := d - 1) (by omega) (nI s) (nI t) hT (vp_in_nI (by omega) (by decide)) (vp_in_nI (by omega) (by decide))) dX6_shape_26 ml_X6_217 im_X6_refusalOfTwo (hT.s 0 (by decide)) (hT.n 0 (by decide)) rfl rfl (dl1 (d := d) (by omega)) rfl rfl (Nat.le_of_ble_eq_true rfl) rfl rfl (Nat.zero_le _) (Nat.zero_le _) ?_
  refine aw_topE h3 ?_
  refine aw_istore_n [(3, .int e), (0, .ref 0), (1, .int (nI s)), (2, .int (nI t))] dX6_shape_29 (Nat.le_of_ble_eq_true rfl) rfl ?_
  refine aw_iload_n dX6_shape_30 0 rfl ?_
  refine aw_if_ne 65 dX6_shape_31 (by decide) (fun c3 => ?_) (fun c3 => absurd c3 (fun z => by rw [z] at he; exact absurd he (by decide)))
  refine aw_iload_n dX6_shape_65 0 rfl ?_
  refine aw_if_ge 76 dX6_shape_66 (by decide) (fun c4 => absurd he (Int32.not_lt.mpr c4)) (fun c4 => ?_)
  refine aw_aload_n dX6_shape_69 1 rfl ?_
  refine aw_iload_n dX6_shape_70 0 rfl ?_
  refine aw_iconst (v := -1) dX6_shape_71 (by decide) ?_
  refine aw_callVi [.int e, .int (-1)] [] (sp_X6_tells (d := d - 1) (by omega) e (-1) hT) dX6_shape_72 ml_X6_192 im_X6_tells (hT.s 0 (by decide)) (hT.n 0 (by decide)) rfl rfl (dl1 (d := d) (by omega)) rfl rfl (Nat.le_of_ble_eq_true rfl) rfl rfl (Nat.zero_le _) (Nat.zero_le _) ?_
  refine aw_iret dX6_shape_75 rfl (Nat.zero_le _) (Nat.zero_le _) ?_
  exact ⟨rfl, rfl⟩
theorem sp_X6_shape_n {d : Nat} (hd : 3 ≤ d) {M : xM} (s t : Nat) (hT : TR M) (hs : s < 12) (ht : t < 12) (h1 : sX6_isThing (lN s) = true) (h2 : sX6_isThing (lN t) = true) (h3 : sX6_refusalOfTwo M (nI s) (nI t) = 0) (c : Nat) (hc : mI M 1 s = nI c) (hc14 : c < 16) (h4 : ¬ c = 9) : Sp (fX6_shape d) [.ref 0, .int (nI s), .int (nI t)] M (dt (some (.int (-2))) (tX6_tells M (-2) (-1))) := by
  refine Sp.of pn_X6 (Nat.le_of_ble_eq_true rfl) (fun h => Bool.noConfusion h) ?_
  refine aw_iload_n dX6_shape_0 1 rfl ?_
  refine aw_i2lN s dX6_shape_1 rfl (by omega) ?_
  refine aw_callSi [.long (lN s)] [] (sp_X6_isThing (d := d - 1) (by omega) (lN s) ) dX6_shape_2 ml_X6_159 sm_X6_isThing rfl (dl1 (d := d) (by omega)) rfl rfl (Nat.le_of_ble_eq_true rfl) rfl rfl (Nat.zero_le _) (Nat.zero_le _) ?_
  refine aw_if_eq 16 dX6_shape_5 (by decide) (fun c1 => absurd c1 (bz_n0.mpr h1)) (fun c1 => ?_)
  refine aw_iload_n dX6_shape_8 2 rfl ?_
  refine aw_i2lN t dX6_shape_9 rfl (by omega) ?_
  refine aw_callSi [.long (lN t)] [] (sp_X6_isThing (d := d - 1) (by omega) (lN t) ) dX6_shape_10 ml_X6_159 sm_X6_isThing rfl (dl1 (d := d) (by omega)) rfl rfl (Nat.le_of_ble_eq_true rfl) rfl rfl (Nat.zero_le _) (Nat.zero_le _) ?_
  refine aw_if_ne 23 dX6_shape_13 (by decide) (fun c2 => ?_) (fun c2 => absurd c2 (bz_n0.mpr h2))
  refine aw_aload_n dX6_shape_23 0 rfl ?_
  refine aw_iload_n dX6_shape_24 1 rfl ?_
  refine aw_iload_n dX6_shape_25 2 rfl ?_
  refine aw_callVi [.int (nI s), .int (nI t)] [] (sp_X6_refusalOfTwo (d := d - 1) (by omega) (nI s) (nI t) hT (vp_in_nI (by omega) (by decide)) (vp_in_nI (by omega) (by decide))) dX6_shape_26 ml_X6_217 im_X6_refusalOfTwo (hT.s 0 (by decide)) (hT.n 0 (by decide)) rfl rfl (dl1 (d := d) (by omega)) rfl rfl (Nat.le_of_ble_eq_true rfl) rfl rfl (Nat.zero_le _) (Nat.zero_le _) ?_
  refine aw_topE h3 ?_
  refine aw_istore_n [(3, .int 0), (0, .ref 0), (1, .int (nI s)), (2, .int (nI t))] dX6_shape_29 (Nat.le_of_ble_eq_true rfl) rfl ?_
  refine aw_iload_n dX6_shape_30 0 rfl ?_
  refine aw_if_ne 65 dX6_shape_31 (by decide) (fun c3 => absurd rfl c3) (fun c3 => ?_)
  refine aw_aload_n dX6_shape_34 1 rfl ?_
  refine aw_getR (b := 1) dX6_shape_35 fl_X6_7 rfl (hT.s 0 (by decide)) (hT.n 0 (by decide)) (hT.r 0) ?_
  refine aw_iload_n dX6_shape_38 2 rfl ?_
  refine aw_ialdN s dX6_shape_39 (hT.s 1 (by decide)) (hT.n 1 (by decide)) rfl (by omega) (by first | decide | omega) ?_
  refine aw_topE hc ?_
  refine aw_bipush (v := 9) dX6_shape_40 (by decide) ?_
  refine aw_icmp_eqN c 9 50 dX6_shape_42 (by decide) rfl rfl (by omega) (by omega) (fun c4 => absurd c4 h4) (fun c4 => ?_)
  refine aw_bipush (v := -2) dX6_shape_45 (by decide) ?_
  refine aw_goto 64 dX6_shape_47 (by decide) ?_
  refine aw_istore_n [(3, .int (-2)), (0, .ref 0), (1, .int (nI s)), (2, .int (nI t))] dX6_shape_64 (Nat.le_of_ble_eq_true rfl) rfl ?_
  refine aw_iload_n dX6_shape_65 0 rfl ?_
  refine aw_if_ge 76 dX6_shape_66 (by decide) (fun c5 => absurd c5 (by decide)) (fun c5 => ?_)
  refine aw_aload_n dX6_shape_69 1 rfl ?_
  refine aw_iload_n dX6_shape_70 0 rfl ?_
  refine aw_iconst (v := -1) dX6_shape_71 (by decide) ?_
  refine aw_callVi [.int (-2), .int (-1)] [] (sp_X6_tells (d := d - 1) (by omega) (-2) (-1) hT) dX6_shape_72 ml_X6_192 im_X6_tells (hT.s 0 (by decide)) (hT.n 0 (by decide)) rfl rfl (dl1 (d := d) (by omega)) rfl rfl (Nat.le_of_ble_eq_true rfl) rfl rfl (Nat.zero_le _) (Nat.zero_le _) ?_
  refine aw_iret dX6_shape_75 rfl (Nat.zero_le _) (Nat.zero_le _) ?_
  exact ⟨rfl, rfl⟩
theorem sp_X6_shape_o {d : Nat} (hd : 3 ≤ d) {M : xM} (s t : Nat) (hT : TR M) (hs : s < 12) (ht : t < 12) (h1 : sX6_isThing (lN s) = true) (h2 : sX6_isThing (lN t) = true) (h3 : sX6_refusalOfTwo M (nI s) (nI t) = 0) (c : Nat) (hc : mI M 1 s = nI c) (hc14 : c < 16) (h4 : c = 9) (h5 : sX6_isPlain M (nI t) = false) : Sp (fX6_shape d) [.ref 0, .int (nI s), .int (nI t)] M (dt (some (.int (-7))) (tX6_tells M (-7) (-1))) := by
  refine Sp.of pn_X6 (Nat.le_of_ble_eq_true rfl) (fun h => Bool.noConfusion h) ?_
  refine aw_iload_n dX6_shape_0 1 rfl ?_
  refine aw_i2lN s dX6_shape_1 rfl (by omega) ?_
  refine aw_callSi [.long (lN s)] [] (sp_X6_isThing (d := d - 1) (by omega) (lN s) ) dX6_shape_2 ml_X6_159 sm_X6_isThing rfl (dl1 (d := d) (by omega)) rfl rfl (Nat.le_of_ble_eq_true rfl) rfl rfl (Nat.zero_le _) (Nat.zero_le _) ?_
  refine aw_if_eq 16 dX6_shape_5 (by decide) (fun c1 => absurd c1 (bz_n0.mpr h1)) (fun c1 => ?_)
  refine aw_iload_n dX6_shape_8 2 rfl ?_
  refine aw_i2lN t dX6_shape_9 rfl (by omega) ?_
  refine aw_callSi [.long (lN t)] [] (sp_X6_isThing (d := d - 1) (by omega) (lN t) ) dX6_shape_10 ml_X6_159 sm_X6_isThing rfl (dl1 (d := d) (by omega)) rfl rfl (Nat.le_of_ble_eq_true rfl) rfl rfl (Nat.zero_le _) (Nat.zero_le _) ?_
  refine aw_if_ne 23 dX6_shape_13 (by decide) (fun c2 => ?_) (fun c2 => absurd c2 (bz_n0.mpr h2))
  refine aw_aload_n dX6_shape_23 0 rfl ?_
  refine aw_iload_n dX6_shape_24 1 rfl ?_
  refine aw_iload_n dX6_shape_25 2 rfl ?_
  refine aw_callVi [.int (nI s), .int (nI t)] [] (sp_X6_refusalOfTwo (d := d - 1) (by omega) (nI s) (nI t) hT (vp_in_nI (by omega) (by decide)) (vp_in_nI (by omega) (by decide))) dX6_shape_26 ml_X6_217 im_X6_refusalOfTwo (hT.s 0 (by decide)) (hT.n 0 (by decide)) rfl rfl (dl1 (d := d) (by omega)) rfl rfl (Nat.le_of_ble_eq_true rfl) rfl rfl (Nat.zero_le _) (Nat.zero_le _) ?_
  refine aw_topE h3 ?_
  refine aw_istore_n [(3, .int 0), (0, .ref 0), (1, .int (nI s)), (2, .int (nI t))] dX6_shape_29 (Nat.le_of_ble_eq_true rfl) rfl ?_
  refine aw_iload_n dX6_shape_30 0 rfl ?_
  refine aw_if_ne 65 dX6_shape_31 (by decide) (fun c3 => absurd rfl c3) (fun c3 => ?_)
  refine aw_aload_n dX6_shape_34 1 rfl ?_
  refine aw_getR (b := 1) dX6_shape_35 fl_X6_7 rfl (hT.s 0 (by decide)) (hT.n 0 (by decide)) (hT.r 0) ?_
  refine aw_iload_n dX6_shape_38 2 rfl ?_
  refine aw_ialdN s dX6_shape_39 (hT.s 1 (by decide)) (hT.n 1 (by decide)) rfl (by omega) (by first | decide | omega) ?_
  refine aw_topE hc ?_
  refine aw_bipush (v := 9) dX6_shape_40 (by decide) ?_
  refine aw_icmp_eqN c 9 50 dX6_shape_42 (by decide) rfl rfl (by omega) (by omega) (fun c4 => ?_) (fun c4 => absurd h4 c4)
  refine aw_aload_n dX6_shape_50 1 rfl ?_
  refine aw_iload_n dX6_shape_51 3 rfl ?_
  refine aw_callVi [.int (nI t)] [] (sp_X6_isPlain (d := d - 1) (by omega) (nI t) hT (vp_in_nI (by omega) (by decide))) dX6_shape_52 ml_X6_183 im_X6_isPlain (hT.s 0 (by decide)) (hT.n 0 (by decide)) rfl rfl (dl1 (d := d) (by omega)) rfl rfl (Nat.le_of_ble_eq_true rfl) rfl rfl (Nat.zero_le _) (Nat.zero_le _) ?_
  refine aw_if_ne 63 dX6_shape_55 (by decide) (fun c5 => absurd (bz_0.mpr h5) c5) (fun c5 => ?_)
  refine aw_bipush (v := -7) dX6_shape_58 (by decide) ?_
  refine aw_goto 64 dX6_shape_60 (by decide) ?_
  refine aw_istore_n [(3, .int (-7)), (0, .ref 0), (1, .int (nI s)), (2, .int (nI t))] dX6_shape_64 (Nat.le_of_ble_eq_true rfl) rfl ?_
  refine aw_iload_n dX6_shape_65 0 rfl ?_
  refine aw_if_ge 76 dX6_shape_66 (by decide) (fun c6 => absurd c6 (by decide)) (fun c6 => ?_)
  refine aw_aload_n dX6_shape_69 1 rfl ?_
  refine aw_iload_n dX6_shape_70 0 rfl ?_
  refine aw_iconst (v := -1) dX6_shape_71 (by decide) ?_
  refine aw_callVi [.int (-7), .int (-1)] [] (sp_X6_tells (d := d - 1) (by omega) (-7) (-1) hT) dX6_shape_72 ml_X6_192 im_X6_tells (hT.s 0 (by decide)) (hT.n 0 (by decide)) rfl rfl (dl1 (d := d) (by omega)) rfl rfl (Nat.le_of_ble_eq_true rfl) rfl rfl (Nat.zero_le _) (Nat.zero_le _) ?_
  refine aw_iret dX6_shape_75 rfl (Nat.zero_le _) (Nat.zero_le _) ?_
  exact ⟨rfl, rfl⟩
theorem rs_all {d : Nat} (hd : 3 ≤ d) {M : xM} {s t n a : Nat} {W K : Nat → Nat} {V : Nat → Int64} (hT : TR M) (hs : s < 12) (ht : t < 12) (hn : n ≤ 12) (hk : mI M 1 t = nI a) (hW : ∀ k, k < n → mI M 4 (12 * s + k) = nI (W k)) (hW12 : ∀ k, k < n → W k < 12) (hV : ∀ k, k < n → mL M 5 (12 * s + k) = V k) (hN : ∀ k, k < 16 → mL M 18 k = tNAMES.getD k 0) {post : Option Value → xM → Prop} : ∀ (m i : Nat) (lv6 : List (Nat × Value)), i + m = n → (∀ k, i ≤ k → k < n → rin (W k) (V k) = nI (K k) ∧ K k < 8 ∧ sX6_turns (nI a) (nI (K k)) = true) → (∀ lv6 : List (Nat × Value), AW (fX6_shape d) 168 ([(5, .int (nI n)), (4, .int (nI n)), (3, .int 0), (0, .ref 0), (1, .int (nI s)), (2, .int (nI t))] ++ lv6) [] M 0 0 post) → AW (fX6_shape d) 111 ([(5, .int (nI i)), (4, .int (nI n)), (3, .int 0), (0, .ref 0), (1, .int (nI s)), (2, .int (nI t))] ++ lv6) [] M 0 0 post := by
  intro m
  induction m with
  | zero =>
    intro i lv6 hi h hk
    obtain rfl : i = n := by omega
    refine aw_sub [0, 1, 2, 3, 4, 5] rfl ?_
    refine aw_iload dX6_shape_111 0 rfl ?_
    refine aw_iload dX6_shape_113 1 rfl ?_
    refine aw_icmp_geN i i 168 dX6_shape_115 (by decide) rfl rfl (by omega) (by omega) (fun c1 => ?_) (fun c1 => absurd (by omega) c1)
    exact hk []
  | succ m ih =>
    intro i lv6 hi h hk2
    obtain ⟨g1, g2, g3⟩ := h i (by omega) (by omega)
    have n0 : ¬ nI (K i) < 0 := (by decide : ∀ k, k < 8 → ¬ nI k < 0) _ g2
    refine aw_sub [0, 1, 2, 3, 4, 5] rfl ?_
    refine aw_iload dX6_shape_111 0 rfl ?_
    refine aw_iload dX6_shape_113 1 rfl ?_
    refine aw_icmp_geN i n 168 dX6_shape_115 (by decide) rfl rfl (by omega) (by omega) (fun c1 => absurd c1 (by omega)) (fun c1 => ?_)
    refine aw_aload_n dX6_shape_118 3 rfl ?_
    refine aw_iload_n dX6_shape_119 4 rfl ?_
    refine aw_iload dX6_shape_120 0 rfl ?_
    refine aw_callVi [.int (nI s), .int (nI i)] [] (sp_nin (d := d - 1) (by omega) s i (W i) (V i) hT hs (by omega) (hW12 i (by omega)) (hW i (by omega)) (hV i (by omega)) hN) dX6_shape_122 ml_X6_226 im_X6_namedIn (hT.s 0 (by decide)) (hT.n 0 (by decide)) rfl rfl (dl1 (d := d) (by omega)) rfl rfl (Nat.le_of_ble_eq_true rfl) rfl rfl (Nat.zero_le _) (Nat.zero_le _) ?_
    refine aw_topE g1 ?_
    refine aw_istore [(6, .int (nI (K i))), (5, .int (nI i)), (4, .int (nI n)), (3, .int 0), (0, .ref 0), (1, .int (nI s)), (2, .int (nI t))] dX6_shape_125 (Nat.le_of_ble_eq_true rfl) rfl ?_
    refine aw_iload dX6_shape_127 0 rfl ?_
    refine aw_if_lt 153 dX6_shape_129 (by decide) (fun c2 => absurd c2 n0) (fun c2 => ?_)
    refine aw_iload dX6_shape_132 0 rfl ?_
    refine aw_bipush (v := 7) dX6_shape_134 (by decide) ?_
    refine aw_icmp_gtN (K i) 7 153 dX6_shape_136 (by decide) rfl rfl (by omega) (by omega) (fun c3 => absurd c3 (by omega)) (fun c3 => ?_)
    refine aw_aload_n dX6_shape_139 4 rfl ?_
    refine aw_getR (b := 1) dX6_shape_140 fl_X6_7 rfl (hT.s 0 (by decide)) (hT.n 0 (by decide)) (hT.r 0) ?_
    refine aw_iload_n dX6_shape_143 6 rfl ?_
    refine aw_ialdN t dX6_shape_144 (hT.s 1 (by decide)) (hT.n 1 (by decide)) rfl (by omega) (by first | decide | omega) ?_
    refine aw_topE hk ?_
    refine aw_iload dX6_shape_145 0 rfl ?_
    refine aw_callSi [.int (nI a), .int (nI (K i))] [] (sp_X6_turns (d := d - 1) (by omega) (nI a) (nI (K i))) dX6_shape_147 ml_X6_128 sm_X6_turns rfl (dl1 (d := d) (by omega)) rfl rfl (Nat.le_of_ble_eq_true rfl) rfl rfl (Nat.zero_le _) (Nat.zero_le _) ?_
    refine aw_if_ne 162 dX6_shape_150 (by decide) (fun c4 => ?_) (fun c4 => absurd c4 (bz_n0.mpr g3))
    refine aw_iincN i 1 [(5, .int (nI (i + 1))), (6, .int (nI (K i))), (4, .int (nI n)), (3, .int 0), (0, .ref 0), (1, .int (nI s)), (2, .int (nI t))] dX6_shape_162 1 rfl rfl rfl (Nat.le_of_ble_eq_true rfl) rfl ?_
    refine aw_goto 111 dX6_shape_165 (by decide) ?_
    refine aw_sub [0, 2, 3, 4, 5, 6, 1] rfl ?_
    exact ih (i + 1) [(6, .int (nI (K i)))] (by omega) (fun k k1 k2 => h k (by omega) k2) hk2
theorem rs_ref {d : Nat} (hd : 3 ≤ d) {M : xM} {s t n a : Nat} {W K : Nat → Nat} {V : Nat → Int64} (hT : TR M) (hs : s < 12) (ht : t < 12) (hn : n ≤ 12) (hk : mI M 1 t = nI a) (hW : ∀ k, k < n → mI M 4 (12 * s + k) = nI (W k)) (hW12 : ∀ k, k < n → W k < 12) (hV : ∀ k, k < n → mL M 5 (12 * s + k) = V k) (hN : ∀ k, k < 16 → mL M 18 k = tNAMES.getD k 0) (q : Nat) (hq : q < n) (hf : rin (W q) (V q) < 0 ∨ (∃ k, k < 16 ∧ 8 ≤ k ∧ rin (W q) (V q) = nI k) ∨ (∃ k, k < 8 ∧ rin (W q) (V q) = nI k ∧ sX6_turns (nI a) (nI k) = false)) : ∀ (m i : Nat) (lv6 : List (Nat × Value)), i + m = q → (∀ k, i ≤ k → k < q → rin (W k) (V k) = nI (K k) ∧ K k < 8 ∧ sX6_turns (nI a) (nI (K k)) = true) → AW (fX6_shape d) 111 ([(5, .int (nI i)), (4, .int (nI n)), (3, .int 0), (0, .ref 0), (1, .int (nI s)), (2, .int (nI t))] ++ lv6) [] M 0 0 (dt (some (.int (-9))) (tX6_tells M (-9) (nI q))) := by
  intro m
  induction m with
  | zero =>
    intro i lv6 hi h
    obtain rfl : i = q := by omega
    refine aw_sub [0, 1, 2, 3, 4, 5] rfl ?_
    rcases hf with hf | ⟨k, k1, k2, k3⟩ | ⟨k, k1, k2, k3⟩
    · refine aw_iload dX6_shape_111 0 rfl ?_
      refine aw_iload dX6_shape_113 1 rfl ?_
      refine aw_icmp_geN i n 168 dX6_shape_115 (by decide) rfl rfl (by omega) (by omega) (fun c1 => absurd c1 (by omega)) (fun c1 => ?_)
      refine aw_aload_n dX6_shape_118 3 rfl ?_
      refine aw_iload_n dX6_shape_119 4 rfl ?_
      refine aw_iload dX6_shape_120 0 rfl ?_
      refine aw_callVi [.int (nI s), .int (nI i)] [] (sp_nin (d := d - 1) (by omega) s i (W i) (V i) hT hs (by omega) (hW12 i (by omega)) (hW i (by omega)) (hV i (by omega)) hN) dX6_shape_122 ml_X6_226 im_X6_namedIn (hT.s 0 (by decide)) (hT.n 0 (by decide)) rfl rfl (dl1 (d := d) (by omega)) rfl rfl (Nat.le_of_ble_eq_true rfl) rfl rfl (Nat.zero_le _) (Nat.zero_le _) ?_
      refine aw_istore [(6, .int (rin (W i) (V i))), (5, .int (nI i)), (4, .int (nI n)), (3, .int 0), (0, .ref 0), (1, .int (nI s)), (2, .int (nI t))] dX6_shape_125 (Nat.le_of_ble_eq_true rfl) rfl ?_
      refine aw_iload dX6_shape_127 0 rfl ?_
      refine aw_if_lt 153 dX6_shape_129 (by decide) (fun c2 => ?_) (fun c2 => absurd hf c2)
      refine aw_aload_n dX6_shape_153 4 rfl ?_
      refine aw_bipush (v := -9) dX6_shape_154 (by decide) ?_
      refine aw_iload dX6_shape_156 1 rfl ?_
      refine aw_callVi [.int (-9), .int (nI i)] [] (sp_X6_tells (d := d - 1) (by omega) (-9) (nI i) hT) dX6_shape_158 ml_X6_192 im_X6_tells (hT.s 0 (by decide)) (hT.n 0 (by decide)) rfl rfl (dl1 (d := d) (by omega)) rfl rfl (Nat.le_of_ble_eq_true rfl) rfl rfl (Nat.zero_le _) (Nat.zero_le _) ?_
      refine aw_iret dX6_shape_161 rfl (Nat.zero_le _) (Nat.zero_le _) ?_
      exact ⟨rfl, rfl⟩
    · have n0 : ¬ nI k < 0 := (by decide : ∀ k, k < 16 → ¬ nI k < 0) _ k1
      refine aw_iload dX6_shape_111 0 rfl ?_
      refine aw_iload dX6_shape_113 1 rfl ?_
      refine aw_icmp_geN i n 168 dX6_shape_115 (by decide) rfl rfl (by omega) (by omega) (fun c1 => absurd c1 (by omega)) (fun c1 => ?_)
      refine aw_aload_n dX6_shape_118 3 rfl ?_
      refine aw_iload_n dX6_shape_119 4 rfl ?_
      refine aw_iload dX6_shape_120 0 rfl ?_
      refine aw_callVi [.int (nI s), .int (nI i)] [] (sp_nin (d := d - 1) (by omega) s i (W i) (V i) hT hs (by omega) (hW12 i (by omega)) (hW i (by omega)) (hV i (by omega)) hN) dX6_shape_122 ml_X6_226 im_X6_namedIn (hT.s 0 (by decide)) (hT.n 0 (by decide)) rfl rfl (dl1 (d := d) (by omega)) rfl rfl (Nat.le_of_ble_eq_true rfl) rfl rfl (Nat.zero_le _) (Nat.zero_le _) ?_
      refine aw_topE k3 ?_
      refine aw_istore [(6, .int (nI k)), (5, .int (nI i)), (4, .int (nI n)), (3, .int 0), (0, .ref 0), (1, .int (nI s)), (2, .int (nI t))] dX6_shape_125 (Nat.le_of_ble_eq_true rfl) rfl ?_
      refine aw_iload dX6_shape_127 0 rfl ?_
      refine aw_if_lt 153 dX6_shape_129 (by decide) (fun c2 => absurd c2 n0) (fun c2 => ?_)
      refine aw_iload dX6_shape_132 0 rfl ?_
      refine aw_bipush (v := 7) dX6_shape_134 (by decide) ?_
      refine aw_icmp_gtN k 7 153 dX6_shape_136 (by decide) rfl rfl (by omega) (by omega) (fun c3 => ?_) (fun c3 => absurd (by omega) c3)
      refine aw_aload_n dX6_shape_153 4 rfl ?_
      refine aw_bipush (v := -9) dX6_shape_154 (by decide) ?_
      refine aw_iload dX6_shape_156 1 rfl ?_
      refine aw_callVi [.int (-9), .int (nI i)] [] (sp_X6_tells (d := d - 1) (by omega) (-9) (nI i) hT) dX6_shape_158 ml_X6_192 im_X6_tells (hT.s 0 (by decide)) (hT.n 0 (by decide)) rfl rfl (dl1 (d := d) (by omega)) rfl rfl (Nat.le_of_ble_eq_true rfl) rfl rfl (Nat.zero_le _) (Nat.zero_le _) ?_
      refine aw_iret dX6_shape_161 rfl (Nat.zero_le _) (Nat.zero_le _) ?_
      exact ⟨rfl, rfl⟩
    · have n0 : ¬ nI k < 0 := (by decide : ∀ k, k < 16 → ¬ nI k < 0) _ (by omega)
      refine aw_iload dX6_shape_111 0 rfl ?_
      refine aw_iload dX6_shape_113 1 rfl ?_
      refine aw_icmp_geN i n 168 dX6_shape_115 (by decide) rfl rfl (by omega) (by omega) (fun c1 => absurd c1 (by omega)) (fun c1 => ?_)
      refine aw_aload_n dX6_shape_118 3 rfl ?_
      refine aw_iload_n dX6_shape_119 4 rfl ?_
      refine aw_iload dX6_shape_120 0 rfl ?_
      refine aw_callVi [.int (nI s), .int (nI i)] [] (sp_nin (d := d - 1) (by omega) s i (W i) (V i) hT hs (by omega) (hW12 i (by omega)) (hW i (by omega)) (hV i (by omega)) hN) dX6_shape_122 ml_X6_226 im_X6_namedIn (hT.s 0 (by decide)) (hT.n 0 (by decide)) rfl rfl (dl1 (d := d) (by omega)) rfl rfl (Nat.le_of_ble_eq_true rfl) rfl rfl (Nat.zero_le _) (Nat.zero_le _) ?_
      refine aw_topE k2 ?_
      refine aw_istore [(6, .int (nI k)), (5, .int (nI i)), (4, .int (nI n)), (3, .int 0), (0, .ref 0), (1, .int (nI s)), (2, .int (nI t))] dX6_shape_125 (Nat.le_of_ble_eq_true rfl) rfl ?_
      refine aw_iload dX6_shape_127 0 rfl ?_
      refine aw_if_lt 153 dX6_shape_129 (by decide) (fun c2 => absurd c2 n0) (fun c2 => ?_)
      refine aw_iload dX6_shape_132 0 rfl ?_
      refine aw_bipush (v := 7) dX6_shape_134 (by decide) ?_
      refine aw_icmp_gtN k 7 153 dX6_shape_136 (by decide) rfl rfl (by omega) (by omega) (fun c3 => absurd c3 (by omega)) (fun c3 => ?_)
      refine aw_aload_n dX6_shape_139 4 rfl ?_
      refine aw_getR (b := 1) dX6_shape_140 fl_X6_7 rfl (hT.s 0 (by decide)) (hT.n 0 (by decide)) (hT.r 0) ?_
      refine aw_iload_n dX6_shape_143 6 rfl ?_
      refine aw_ialdN t dX6_shape_144 (hT.s 1 (by decide)) (hT.n 1 (by decide)) rfl (by omega) (by first | decide | omega) ?_
      refine aw_topE hk ?_
      refine aw_iload dX6_shape_145 0 rfl ?_
      refine aw_callSi [.int (nI a), .int (nI k)] [] (sp_X6_turns (d := d - 1) (by omega) (nI a) (nI k)) dX6_shape_147 ml_X6_128 sm_X6_turns rfl (dl1 (d := d) (by omega)) rfl rfl (Nat.le_of_ble_eq_true rfl) rfl rfl (Nat.zero_le _) (Nat.zero_le _) ?_
      refine aw_if_ne 162 dX6_shape_150 (by decide) (fun c4 => absurd (bz_0.mpr k3) c4) (fun c4 => ?_)
      refine aw_aload_n dX6_shape_153 4 rfl ?_
      refine aw_bipush (v := -9) dX6_shape_154 (by decide) ?_
      refine aw_iload dX6_shape_156 1 rfl ?_
      refine aw_callVi [.int (-9), .int (nI i)] [] (sp_X6_tells (d := d - 1) (by omega) (-9) (nI i) hT) dX6_shape_158 ml_X6_192 im_X6_tells (hT.s 0 (by decide)) (hT.n 0 (by decide)) rfl rfl (dl1 (d := d) (by omega)) rfl rfl (Nat.le_of_ble_eq_true rfl) rfl rfl (Nat.zero_le _) (Nat.zero_le _) ?_
      refine aw_iret dX6_shape_161 rfl (Nat.zero_le _) (Nat.zero_le _) ?_
      exact ⟨rfl, rfl⟩
  | succ m ih =>
    intro i lv6 hi h
    obtain ⟨g1, g2, g3⟩ := h i (by omega) (by omega)
    have n0 : ¬ nI (K i) < 0 := (by decide : ∀ k, k < 8 → ¬ nI k < 0) _ g2
    refine aw_sub [0, 1, 2, 3, 4, 5] rfl ?_
    refine aw_iload dX6_shape_111 0 rfl ?_
    refine aw_iload dX6_shape_113 1 rfl ?_
    refine aw_icmp_geN i n 168 dX6_shape_115 (by decide) rfl rfl (by omega) (by omega) (fun c1 => absurd c1 (by omega)) (fun c1 => ?_)
    refine aw_aload_n dX6_shape_118 3 rfl ?_
    refine aw_iload_n dX6_shape_119 4 rfl ?_
    refine aw_iload dX6_shape_120 0 rfl ?_
    refine aw_callVi [.int (nI s), .int (nI i)] [] (sp_nin (d := d - 1) (by omega) s i (W i) (V i) hT hs (by omega) (hW12 i (by omega)) (hW i (by omega)) (hV i (by omega)) hN) dX6_shape_122 ml_X6_226 im_X6_namedIn (hT.s 0 (by decide)) (hT.n 0 (by decide)) rfl rfl (dl1 (d := d) (by omega)) rfl rfl (Nat.le_of_ble_eq_true rfl) rfl rfl (Nat.zero_le _) (Nat.zero_le _) ?_
    refine aw_topE g1 ?_
    refine aw_istore [(6, .int (nI (K i))), (5, .int (nI i)), (4, .int (nI n)), (3, .int 0), (0, .ref 0), (1, .int (nI s)), (2, .int (nI t))] dX6_shape_125 (Nat.le_of_ble_eq_true rfl) rfl ?_
    refine aw_iload dX6_shape_127 0 rfl ?_
    refine aw_if_lt 153 dX6_shape_129 (by decide) (fun c2 => absurd c2 n0) (fun c2 => ?_)
    refine aw_iload dX6_shape_132 0 rfl ?_
    refine aw_bipush (v := 7) dX6_shape_134 (by decide) ?_
    refine aw_icmp_gtN (K i) 7 153 dX6_shape_136 (by decide) rfl rfl (by omega) (by omega) (fun c3 => absurd c3 (by omega)) (fun c3 => ?_)
    refine aw_aload_n dX6_shape_139 4 rfl ?_
    refine aw_getR (b := 1) dX6_shape_140 fl_X6_7 rfl (hT.s 0 (by decide)) (hT.n 0 (by decide)) (hT.r 0) ?_
    refine aw_iload_n dX6_shape_143 6 rfl ?_
    refine aw_ialdN t dX6_shape_144 (hT.s 1 (by decide)) (hT.n 1 (by decide)) rfl (by omega) (by first | decide | omega) ?_
    refine aw_topE hk ?_
    refine aw_iload dX6_shape_145 0 rfl ?_
    refine aw_callSi [.int (nI a), .int (nI (K i))] [] (sp_X6_turns (d := d - 1) (by omega) (nI a) (nI (K i))) dX6_shape_147 ml_X6_128 sm_X6_turns rfl (dl1 (d := d) (by omega)) rfl rfl (Nat.le_of_ble_eq_true rfl) rfl rfl (Nat.zero_le _) (Nat.zero_le _) ?_
    refine aw_if_ne 162 dX6_shape_150 (by decide) (fun c4 => ?_) (fun c4 => absurd c4 (bz_n0.mpr g3))
    refine aw_iincN i 1 [(5, .int (nI (i + 1))), (6, .int (nI (K i))), (4, .int (nI n)), (3, .int 0), (0, .ref 0), (1, .int (nI s)), (2, .int (nI t))] dX6_shape_162 1 rfl rfl rfl (Nat.le_of_ble_eq_true rfl) rfl ?_
    refine aw_goto 111 dX6_shape_165 (by decide) ?_
    refine aw_sub [0, 2, 3, 4, 5, 6, 1] rfl ?_
    exact ih (i + 1) [(6, .int (nI (K i)))] (by omega) (fun k k1 k2 => h k (by omega) k2)
theorem rs_l2 {d : Nat} (hd : 3 ≤ d) {M : xM} {s t n a f : Nat} {W K : Nat → Nat} {V U T : Nat → Int64} (hT : TR M) (hs : s < 12) (ht : t < 12) (hn : n ≤ 12) (hk : mI M 1 t = nI a) (hW : ∀ k, k < n → mI M 4 (12 * s + k) = nI (W k)) (hW12 : ∀ k, k < n → W k < 12) (hV : ∀ k, k < n → mL M 5 (12 * s + k) = V k) (hN : ∀ k, k < 16 → mL M 18 k = tNAMES.getD k 0) (hf : f < 12) (hsf : s ≠ f) (htf : t ≠ f) (ha : a < 8) (hK : ∀ k, k < n → rin (W k) (V k) = nI (K k) ∧ K k < 8) (hTt : ∀ k, k < n → mL M 5 (12 * t + k) = T k) (hU : ∀ k, k < n → U k = wid a (K k) (T k)) (h6 : ∀ k, k < n → a = 6 → okF 6 (T k)) : ∀ (m i : Nat) (lv7 : List (Nat × Value)), i + m = n → AW (fX6_shape d) 200 ([(6, .int (nI i)), (5, .int (nI f)), (4, .int (nI n)), (3, .int 0), (0, .ref 0), (1, .int (nI s)), (2, .int (nI t))] ++ lv7) [] (cvY M f 12 n K U i) 0 0 (dt (some (.int (nI f))) (tX6_tells (cvY M f 12 n K U n) 0 (-1))) := by
  intro m
  induction m with
  | zero =>
    intro i lv7 hi
    obtain rfl : i = n := by omega
    refine aw_sub [0, 1, 2, 3, 4, 5, 6] rfl ?_
    refine aw_iload dX6_shape_200 0 rfl ?_
    refine aw_iload dX6_shape_202 2 rfl ?_
    refine aw_icmp_geN i i 273 dX6_shape_204 (by decide) rfl rfl (by omega) (by omega) (fun c1 => ?_) (fun c1 => absurd (by omega) c1)
    refine aw_aload_n dX6_shape_273 4 rfl ?_
    refine aw_iconst (v := 0) dX6_shape_274 (by decide) ?_
    refine aw_iconst (v := -1) dX6_shape_275 (by decide) ?_
    refine aw_callVi [.int 0, .int (-1)] [] (sp_X6_tells (d := d - 1) (by omega) 0 (-1) ((sT_cvY M f 12 i K U i).TR hT)) dX6_shape_276 ml_X6_192 im_X6_tells (((sT_cvY M f 12 i K U i).TR hT).s 0 (by decide)) (((sT_cvY M f 12 i K U i).TR hT).n 0 (by decide)) rfl rfl (dl1 (d := d) (by omega)) rfl rfl (Nat.le_of_ble_eq_true rfl) rfl rfl (Nat.zero_le _) (Nat.zero_le _) ?_
    refine aw_pop dX6_shape_279 rfl ?_
    refine aw_iload dX6_shape_280 1 rfl ?_
    refine aw_iret dX6_shape_282 rfl (Nat.zero_le _) (Nat.zero_le _) ?_
    exact ⟨rfl, rfl⟩
  | succ m ih =>
    intro i lv7 hi
    have hTY := (sT_cvY M f 12 n K U i).TR hT
    have eW : mI (cvY M f 12 n K U i) 4 (12 * s + i) = nI (W i) := (cvY_4 M f 12 n K U (by omega) hsf (by omega)).1.trans (hW i (by omega))
    have eV : mL (cvY M f 12 n K U i) 5 (12 * s + i) = V i := (cvY_4 M f 12 n K U (by omega) hsf (by omega)).2.trans (hV i (by omega))
    have eT : mL (cvY M f 12 n K U i) 5 (12 * t + i) = T i := (cvY_4 M f 12 n K U (by omega) htf (by omega)).2.trans (hTt i (by omega))
    have ek : mI (cvY M f 12 n K U i) 1 t = nI a := by rw [(cvY_1 M f 12 n K U i t).1, if_neg htf]; exact hk
    have eN : ∀ k, k < 16 → mL (cvY M f 12 n K U i) 18 k = tNAMES.getD k 0 := fun k hk => by
      unfold cvY
      rw [mL_flL_ne _ (by decide)]
      show mL (begM M f (nI 12) (nI n)) 18 k = _
      rw [begM_oL _ _ _ _ (by decide)]
      exact hN k hk
    obtain ⟨k1, k2⟩ := hK i (by omega)
    refine aw_sub [0, 1, 2, 3, 4, 5, 6] rfl ?_
    refine aw_iload dX6_shape_200 0 rfl ?_
    refine aw_iload dX6_shape_202 2 rfl ?_
    refine aw_icmp_geN i n 273 dX6_shape_204 (by decide) rfl rfl (by omega) (by omega) (fun c1 => absurd c1 (by omega)) (fun c1 => ?_)
    refine aw_aload_n dX6_shape_207 4 rfl ?_
    refine aw_iload_n dX6_shape_208 5 rfl ?_
    refine aw_iload dX6_shape_209 0 rfl ?_
    refine aw_callVi [.int (nI s), .int (nI i)] [] (sp_nin (d := d - 1) (by omega) s i (W i) (V i) hTY hs (by omega) (hW12 i (by omega)) eW eV eN) dX6_shape_211 ml_X6_226 im_X6_namedIn (hTY.s 0 (by decide)) (hTY.n 0 (by decide)) rfl rfl (dl1 (d := d) (by omega)) rfl rfl (Nat.le_of_ble_eq_true rfl) rfl rfl (Nat.zero_le _) (Nat.zero_le _) ?_
    refine aw_topE k1 ?_
    refine aw_istore [(7, .int (nI (K i))), (6, .int (nI i)), (5, .int (nI f)), (4, .int (nI n)), (3, .int 0), (0, .ref 0), (1, .int (nI s)), (2, .int (nI t))] dX6_shape_214 (Nat.le_of_ble_eq_true rfl) rfl ?_
    refine aw_aload_n dX6_shape_216 5 rfl ?_
    refine aw_getR (b := 4) dX6_shape_217 fl_X6_20 rfl (hTY.s 0 (by decide)) (hTY.n 0 (by decide)) (hTY.r 3) ?_
    refine aw_bipush (v := 12) dX6_shape_220 (by decide) ?_
    refine aw_iload dX6_shape_222 2 rfl ?_
    refine aw_imulN 12 f dX6_shape_224 rfl rfl ?_
    refine aw_iload dX6_shape_225 1 rfl ?_
    refine aw_iaddN (12 * f) i dX6_shape_227 rfl rfl ?_
    refine aw_iload dX6_shape_228 0 rfl ?_
    refine aw_iastN ((12 * f) + i) dX6_shape_230 (hTY.s 4 (by decide)) (hTY.n 4 (by decide)) rfl (by omega) (by first | decide | omega) ?_
    refine aw_aload_n dX6_shape_231 5 rfl ?_
    refine aw_getR (b := 5) dX6_shape_232 fl_X6_23 rfl (hTY.s 0 (by decide)) (hTY.n 0 (by decide)) (hTY.r 4) ?_
    refine aw_bipush (v := 12) dX6_shape_235 (by decide) ?_
    refine aw_iload dX6_shape_237 2 rfl ?_
    refine aw_imulN 12 f dX6_shape_239 rfl rfl ?_
    refine aw_iload dX6_shape_240 1 rfl ?_
    refine aw_iaddN (12 * f) i dX6_shape_242 rfl rfl ?_
    refine aw_aload_n dX6_shape_243 5 rfl ?_
    refine aw_getR (b := 1) dX6_shape_244 fl_X6_7 rfl (hTY.s 0 (by decide)) (hTY.n 0 (by decide)) (hTY.r 0) ?_
    refine aw_iload_n dX6_shape_247 7 rfl ?_
    refine aw_ialdN t dX6_shape_248 (hTY.s 1 (by decide)) (hTY.n 1 (by decide)) rfl (by omega) (by first | decide | omega) ?_
    refine aw_topE ((congrFun (mI_stI_c _ _ _ (by decide)) t).trans ek) ?_
    refine aw_aload_n dX6_shape_249 5 rfl ?_
    refine aw_getR (b := 5) dX6_shape_250 fl_X6_23 rfl (hTY.s 0 (by decide)) (hTY.n 0 (by decide)) (hTY.r 4) ?_
    refine aw_bipush (v := 12) dX6_shape_253 (by decide) ?_
    refine aw_iload_n dX6_shape_255 7 rfl ?_
    refine aw_imulN 12 t dX6_shape_256 rfl rfl ?_
    refine aw_iload dX6_shape_257 1 rfl ?_
    refine aw_iaddN (12 * t) i dX6_shape_259 rfl rfl ?_
    refine aw_laldN ((12 * t) + i) dX6_shape_260 (hTY.s 5 (by decide)) (hTY.n 5 (by decide)) rfl (by omega) (by first | decide | omega) ?_
    refine aw_toplE ((congrFun (mL_stI_c _ _ _ _ _) _).trans eT) ?_
    refine aw_iload dX6_shape_261 0 rfl ?_
    refine aw_callSl [.int (nI a), .long (T i), .int (nI (K i))] [.int (nI ((12 * f) + i)), .ref 5] (sp_X6_turned (d := d - 1) (by omega) a (K i) ha k2 (T i) (h6 i (by omega))) dX6_shape_263 ml_X6_132 sm_X6_turned rfl (dl1 (d := d) (by omega)) rfl rfl (Nat.le_of_ble_eq_true rfl) rfl rfl (Nat.zero_le _) (Nat.zero_le _) ?_
    refine aw_toplE (hU i (by omega)).symm ?_
    refine aw_lastN ((12 * f) + i) dX6_shape_266 (hTY.s 5 (by decide)) (hTY.n 5 (by decide)) rfl (by omega) (by first | decide | omega) ?_
    refine aw_iincN i 1 [(6, .int (nI (i + 1))), (7, .int (nI (K i))), (5, .int (nI f)), (4, .int (nI n)), (3, .int 0), (0, .ref 0), (1, .int (nI s)), (2, .int (nI t))] dX6_shape_267 1 rfl rfl rfl (Nat.le_of_ble_eq_true rfl) rfl ?_
    refine aw_goto 200 dX6_shape_270 (by decide) ?_
    refine aw_sub [0, 2, 3, 4, 5, 6, 7, 1] rfl ?_
    refine aw_eqM (show _ = cvY M f 12 n K U (i + 1) from flIL_s _ 4 (12 * f) 5 (12 * f) i _ _ rfl rfl) ?_
    exact ih (i + 1) [(7, .int (nI (K i)))] (by omega)
theorem sp_X6_shape_k {d : Nat} (hd : 3 ≤ d) {M : xM} {s t n a zs zt : Nat} {W K : Nat → Nat} {V : Nat → Int64} (h1 : sX6_isThing (lN s) = true) (h2 : sX6_isThing (lN t) = true) (h3 : sX6_refusalOfTwo M (nI s) (nI t) = 0) (hc : mI M 1 s = nI 9) (h5 : sX6_isPlain M (nI t) = true) (hzs : mI M 2 s = nI zs) (hzt : mI M 2 t = nI zt) (hz1 : zs ≤ 12) (hz2 : zt ≤ 12) (hm : n = min zs zt) (hT : TR M) (hs : s < 12) (ht : t < 12) (hn : n ≤ 12) (hk : mI M 1 t = nI a) (hW : ∀ k, k < n → mI M 4 (12 * s + k) = nI (W k)) (hW12 : ∀ k, k < n → W k < 12) (hV : ∀ k, k < n → mL M 5 (12 * s + k) = V k) (hN : ∀ k, k < 16 → mL M 18 k = tNAMES.getD k 0) (q : Nat) (hq : q < n) (hf : rin (W q) (V q) < 0 ∨ (∃ k, k < 16 ∧ 8 ≤ k ∧ rin (W q) (V q) = nI k) ∨ (∃ k, k < 8 ∧ rin (W q) (V q) = nI k ∧ sX6_turns (nI a) (nI k) = false)) (h : ∀ k, k < q → rin (W k) (V k) = nI (K k) ∧ K k < 8 ∧ sX6_turns (nI a) (nI (K k)) = true) : Sp (fX6_shape d) [.ref 0, .int (nI s), .int (nI t)] M (dt (some (.int (-9))) (tX6_tells M (-9) (nI q))) := by
  refine Sp.of pn_X6 (Nat.le_of_ble_eq_true rfl) (fun h => Bool.noConfusion h) ?_
  have hgo : AW (fX6_shape d) 111 [(5, .int (nI 0)), (4, .int (nI n)), (3, .int 0), (0, .ref 0), (1, .int (nI s)), (2, .int (nI t))] [] M 0 0 _ := rs_ref (K := K) hd hT hs ht hn hk hW hW12 hV hN q hq hf q 0 [] (by omega) (fun k _ k2 => h k k2)
  by_cases hzz : zt ≤ zs
  · refine aw_iload_n dX6_shape_0 1 rfl ?_
    refine aw_i2lN s dX6_shape_1 rfl (by omega) ?_
    refine aw_callSi [.long (lN s)] [] (sp_X6_isThing (d := d - 1) (by omega) (lN s) ) dX6_shape_2 ml_X6_159 sm_X6_isThing rfl (dl1 (d := d) (by omega)) rfl rfl (Nat.le_of_ble_eq_true rfl) rfl rfl (Nat.zero_le _) (Nat.zero_le _) ?_
    refine aw_if_eq 16 dX6_shape_5 (by decide) (fun c1 => absurd c1 (bz_n0.mpr h1)) (fun c1 => ?_)
    refine aw_iload_n dX6_shape_8 2 rfl ?_
    refine aw_i2lN t dX6_shape_9 rfl (by omega) ?_
    refine aw_callSi [.long (lN t)] [] (sp_X6_isThing (d := d - 1) (by omega) (lN t) ) dX6_shape_10 ml_X6_159 sm_X6_isThing rfl (dl1 (d := d) (by omega)) rfl rfl (Nat.le_of_ble_eq_true rfl) rfl rfl (Nat.zero_le _) (Nat.zero_le _) ?_
    refine aw_if_ne 23 dX6_shape_13 (by decide) (fun c2 => ?_) (fun c2 => absurd c2 (bz_n0.mpr h2))
    refine aw_aload_n dX6_shape_23 0 rfl ?_
    refine aw_iload_n dX6_shape_24 1 rfl ?_
    refine aw_iload_n dX6_shape_25 2 rfl ?_
    refine aw_callVi [.int (nI s), .int (nI t)] [] (sp_X6_refusalOfTwo (d := d - 1) (by omega) (nI s) (nI t) hT (vp_in_nI (by omega) (by decide)) (vp_in_nI (by omega) (by decide))) dX6_shape_26 ml_X6_217 im_X6_refusalOfTwo (hT.s 0 (by decide)) (hT.n 0 (by decide)) rfl rfl (dl1 (d := d) (by omega)) rfl rfl (Nat.le_of_ble_eq_true rfl) rfl rfl (Nat.zero_le _) (Nat.zero_le _) ?_
    refine aw_topE h3 ?_
    refine aw_istore_n [(3, .int 0), (0, .ref 0), (1, .int (nI s)), (2, .int (nI t))] dX6_shape_29 (Nat.le_of_ble_eq_true rfl) rfl ?_
    refine aw_iload_n dX6_shape_30 0 rfl ?_
    refine aw_if_ne 65 dX6_shape_31 (by decide) (fun c3 => absurd rfl c3) (fun c3 => ?_)
    refine aw_aload_n dX6_shape_34 1 rfl ?_
    refine aw_getR (b := 1) dX6_shape_35 fl_X6_7 rfl (hT.s 0 (by decide)) (hT.n 0 (by decide)) (hT.r 0) ?_
    refine aw_iload_n dX6_shape_38 2 rfl ?_
    refine aw_ialdN s dX6_shape_39 (hT.s 1 (by decide)) (hT.n 1 (by decide)) rfl (by omega) (by first | decide | omega) ?_
    refine aw_topE hc ?_
    refine aw_bipush (v := 9) dX6_shape_40 (by decide) ?_
    refine aw_icmp_eqN 9 9 50 dX6_shape_42 (by decide) rfl rfl (by omega) (by omega) (fun c4 => ?_) (fun c4 => absurd rfl c4)
    refine aw_aload_n dX6_shape_50 1 rfl ?_
    refine aw_iload_n dX6_shape_51 3 rfl ?_
    refine aw_callVi [.int (nI t)] [] (sp_X6_isPlain (d := d - 1) (by omega) (nI t) hT (vp_in_nI (by omega) (by decide))) dX6_shape_52 ml_X6_183 im_X6_isPlain (hT.s 0 (by decide)) (hT.n 0 (by decide)) rfl rfl (dl1 (d := d) (by omega)) rfl rfl (Nat.le_of_ble_eq_true rfl) rfl rfl (Nat.zero_le _) (Nat.zero_le _) ?_
    refine aw_if_ne 63 dX6_shape_55 (by decide) (fun c5 => ?_) (fun c5 => absurd c5 (bz_n0.mpr h5))
    refine aw_iconst (v := 0) dX6_shape_63 (by decide) ?_
    refine aw_istore_n [(3, .int 0), (0, .ref 0), (1, .int (nI s)), (2, .int (nI t))] dX6_shape_64 (Nat.le_of_ble_eq_true rfl) rfl ?_
    refine aw_iload_n dX6_shape_65 0 rfl ?_
    refine aw_if_ge 76 dX6_shape_66 (by decide) (fun c6 => ?_) (fun c6 => absurd (by decide) c6)
    refine aw_aload_n dX6_shape_76 1 rfl ?_
    refine aw_getR (b := 2) dX6_shape_77 fl_X6_13 rfl (hT.s 0 (by decide)) (hT.n 0 (by decide)) (hT.r 1) ?_
    refine aw_iload_n dX6_shape_80 2 rfl ?_
    refine aw_ialdN s dX6_shape_81 (hT.s 2 (by decide)) (hT.n 2 (by decide)) rfl (by omega) (by first | decide | omega) ?_
    refine aw_topE hzs ?_
    refine aw_aload_n dX6_shape_82 1 rfl ?_
    refine aw_getR (b := 2) dX6_shape_83 fl_X6_13 rfl (hT.s 0 (by decide)) (hT.n 0 (by decide)) (hT.r 1) ?_
    refine aw_iload_n dX6_shape_86 3 rfl ?_
    refine aw_ialdN t dX6_shape_87 (hT.s 2 (by decide)) (hT.n 2 (by decide)) rfl (by omega) (by first | decide | omega) ?_
    refine aw_topE hzt ?_
    refine aw_icmp_geN zs zt 100 dX6_shape_88 (by decide) rfl rfl (by omega) (by omega) (fun c7 => ?_) (fun c7 => absurd (by omega) c7)
    refine aw_aload_n dX6_shape_100 1 rfl ?_
    refine aw_getR (b := 2) dX6_shape_101 fl_X6_13 rfl (hT.s 0 (by decide)) (hT.n 0 (by decide)) (hT.r 1) ?_
    refine aw_iload_n dX6_shape_104 3 rfl ?_
    refine aw_ialdN t dX6_shape_105 (hT.s 2 (by decide)) (hT.n 2 (by decide)) rfl (by omega) (by first | decide | omega) ?_
    refine aw_topE hzt ?_
    refine aw_topE (show nI zt = nI n by rw [hm]; refine congrArg nI ?_; omega) ?_
    refine aw_istore [(4, .int (nI n)), (3, .int 0), (0, .ref 0), (1, .int (nI s)), (2, .int (nI t))] dX6_shape_106 (Nat.le_of_ble_eq_true rfl) rfl ?_
    refine aw_iconst (v := 0) dX6_shape_108 (by decide) ?_
    refine aw_istore [(5, .int 0), (4, .int (nI n)), (3, .int 0), (0, .ref 0), (1, .int (nI s)), (2, .int (nI t))] dX6_shape_109 (Nat.le_of_ble_eq_true rfl) rfl ?_
    exact hgo
  · refine aw_iload_n dX6_shape_0 1 rfl ?_
    refine aw_i2lN s dX6_shape_1 rfl (by omega) ?_
    refine aw_callSi [.long (lN s)] [] (sp_X6_isThing (d := d - 1) (by omega) (lN s) ) dX6_shape_2 ml_X6_159 sm_X6_isThing rfl (dl1 (d := d) (by omega)) rfl rfl (Nat.le_of_ble_eq_true rfl) rfl rfl (Nat.zero_le _) (Nat.zero_le _) ?_
    refine aw_if_eq 16 dX6_shape_5 (by decide) (fun c1 => absurd c1 (bz_n0.mpr h1)) (fun c1 => ?_)
    refine aw_iload_n dX6_shape_8 2 rfl ?_
    refine aw_i2lN t dX6_shape_9 rfl (by omega) ?_
    refine aw_callSi [.long (lN t)] [] (sp_X6_isThing (d := d - 1) (by omega) (lN t) ) dX6_shape_10 ml_X6_159 sm_X6_isThing rfl (dl1 (d := d) (by omega)) rfl rfl (Nat.le_of_ble_eq_true rfl) rfl rfl (Nat.zero_le _) (Nat.zero_le _) ?_
    refine aw_if_ne 23 dX6_shape_13 (by decide) (fun c2 => ?_) (fun c2 => absurd c2 (bz_n0.mpr h2))
    refine aw_aload_n dX6_shape_23 0 rfl ?_
    refine aw_iload_n dX6_shape_24 1 rfl ?_
    refine aw_iload_n dX6_shape_25 2 rfl ?_
    refine aw_callVi [.int (nI s), .int (nI t)] [] (sp_X6_refusalOfTwo (d := d - 1) (by omega) (nI s) (nI t) hT (vp_in_nI (by omega) (by decide)) (vp_in_nI (by omega) (by decide))) dX6_shape_26 ml_X6_217 im_X6_refusalOfTwo (hT.s 0 (by decide)) (hT.n 0 (by decide)) rfl rfl (dl1 (d := d) (by omega)) rfl rfl (Nat.le_of_ble_eq_true rfl) rfl rfl (Nat.zero_le _) (Nat.zero_le _) ?_
    refine aw_topE h3 ?_
    refine aw_istore_n [(3, .int 0), (0, .ref 0), (1, .int (nI s)), (2, .int (nI t))] dX6_shape_29 (Nat.le_of_ble_eq_true rfl) rfl ?_
    refine aw_iload_n dX6_shape_30 0 rfl ?_
    refine aw_if_ne 65 dX6_shape_31 (by decide) (fun c3 => absurd rfl c3) (fun c3 => ?_)
    refine aw_aload_n dX6_shape_34 1 rfl ?_
    refine aw_getR (b := 1) dX6_shape_35 fl_X6_7 rfl (hT.s 0 (by decide)) (hT.n 0 (by decide)) (hT.r 0) ?_
    refine aw_iload_n dX6_shape_38 2 rfl ?_
    refine aw_ialdN s dX6_shape_39 (hT.s 1 (by decide)) (hT.n 1 (by decide)) rfl (by omega) (by first | decide | omega) ?_
    refine aw_topE hc ?_
    refine aw_bipush (v := 9) dX6_shape_40 (by decide) ?_
    refine aw_icmp_eqN 9 9 50 dX6_shape_42 (by decide) rfl rfl (by omega) (by omega) (fun c4 => ?_) (fun c4 => absurd rfl c4)
    refine aw_aload_n dX6_shape_50 1 rfl ?_
    refine aw_iload_n dX6_shape_51 3 rfl ?_
    refine aw_callVi [.int (nI t)] [] (sp_X6_isPlain (d := d - 1) (by omega) (nI t) hT (vp_in_nI (by omega) (by decide))) dX6_shape_52 ml_X6_183 im_X6_isPlain (hT.s 0 (by decide)) (hT.n 0 (by decide)) rfl rfl (dl1 (d := d) (by omega)) rfl rfl (Nat.le_of_ble_eq_true rfl) rfl rfl (Nat.zero_le _) (Nat.zero_le _) ?_
    refine aw_if_ne 63 dX6_shape_55 (by decide) (fun c5 => ?_) (fun c5 => absurd c5 (bz_n0.mpr h5))
    refine aw_iconst (v := 0) dX6_shape_63 (by decide) ?_
    refine aw_istore_n [(3, .int 0), (0, .ref 0), (1, .int (nI s)), (2, .int (nI t))] dX6_shape_64 (Nat.le_of_ble_eq_true rfl) rfl ?_
    refine aw_iload_n dX6_shape_65 0 rfl ?_
    refine aw_if_ge 76 dX6_shape_66 (by decide) (fun c6 => ?_) (fun c6 => absurd (by decide) c6)
    refine aw_aload_n dX6_shape_76 1 rfl ?_
    refine aw_getR (b := 2) dX6_shape_77 fl_X6_13 rfl (hT.s 0 (by decide)) (hT.n 0 (by decide)) (hT.r 1) ?_
    refine aw_iload_n dX6_shape_80 2 rfl ?_
    refine aw_ialdN s dX6_shape_81 (hT.s 2 (by decide)) (hT.n 2 (by decide)) rfl (by omega) (by first | decide | omega) ?_
    refine aw_topE hzs ?_
    refine aw_aload_n dX6_shape_82 1 rfl ?_
    refine aw_getR (b := 2) dX6_shape_83 fl_X6_13 rfl (hT.s 0 (by decide)) (hT.n 0 (by decide)) (hT.r 1) ?_
    refine aw_iload_n dX6_shape_86 3 rfl ?_
    refine aw_ialdN t dX6_shape_87 (hT.s 2 (by decide)) (hT.n 2 (by decide)) rfl (by omega) (by first | decide | omega) ?_
    refine aw_topE hzt ?_
    refine aw_icmp_geN zs zt 100 dX6_shape_88 (by decide) rfl rfl (by omega) (by omega) (fun c7 => absurd c7 (by omega)) (fun c7 => ?_)
    refine aw_aload_n dX6_shape_91 1 rfl ?_
    refine aw_getR (b := 2) dX6_shape_92 fl_X6_13 rfl (hT.s 0 (by decide)) (hT.n 0 (by decide)) (hT.r 1) ?_
    refine aw_iload_n dX6_shape_95 2 rfl ?_
    refine aw_ialdN s dX6_shape_96 (hT.s 2 (by decide)) (hT.n 2 (by decide)) rfl (by omega) (by first | decide | omega) ?_
    refine aw_topE hzs ?_
    refine aw_goto 106 dX6_shape_97 (by decide) ?_
    refine aw_topE (show nI zs = nI n by rw [hm]; refine congrArg nI ?_; omega) ?_
    refine aw_istore [(4, .int (nI n)), (3, .int 0), (0, .ref 0), (1, .int (nI s)), (2, .int (nI t))] dX6_shape_106 (Nat.le_of_ble_eq_true rfl) rfl ?_
    refine aw_iconst (v := 0) dX6_shape_108 (by decide) ?_
    refine aw_istore [(5, .int 0), (4, .int (nI n)), (3, .int 0), (0, .ref 0), (1, .int (nI s)), (2, .int (nI t))] dX6_shape_109 (Nat.le_of_ble_eq_true rfl) rfl ?_
    exact hgo
theorem sp_X6_shape_f {d : Nat} (hd : 3 ≤ d) {M : xM} {s t n a zs zt : Nat} {W K : Nat → Nat} {V : Nat → Int64} (h1 : sX6_isThing (lN s) = true) (h2 : sX6_isThing (lN t) = true) (h3 : sX6_refusalOfTwo M (nI s) (nI t) = 0) (hc : mI M 1 s = nI 9) (h5 : sX6_isPlain M (nI t) = true) (hzs : mI M 2 s = nI zs) (hzt : mI M 2 t = nI zt) (hz1 : zs ≤ 12) (hz2 : zt ≤ 12) (hm : n = min zs zt) (hT : TR M) (hs : s < 12) (ht : t < 12) (hn : n ≤ 12) (hk : mI M 1 t = nI a) (hW : ∀ k, k < n → mI M 4 (12 * s + k) = nI (W k)) (hW12 : ∀ k, k < n → W k < 12) (hV : ∀ k, k < n → mL M 5 (12 * s + k) = V k) (hN : ∀ k, k < 16 → mL M 18 k = tNAMES.getD k 0) (h : ∀ k, k < n → rin (W k) (V k) = nI (K k) ∧ K k < 8 ∧ sX6_turns (nI a) (nI (K k)) = true) (hl : sX6_free M = -1) : Sp (fX6_shape d) [.ref 0, .int (nI s), .int (nI t)] M (dt (some (.int (-3))) (tX6_tells M (-3) (-1))) := by
  refine Sp.of pn_X6 (Nat.le_of_ble_eq_true rfl) (fun h => Bool.noConfusion h) ?_
  have hend : ∀ lv6 : List (Nat × Value), AW (fX6_shape d) 168 ([(5, .int (nI n)), (4, .int (nI n)), (3, .int 0), (0, .ref 0), (1, .int (nI s)), (2, .int (nI t))] ++ lv6) [] M 0 0 (dt (some (.int (-3))) (tX6_tells M (-3) (-1))) := by
    intro lv6
    refine aw_sub [0, 1, 2, 3, 4, 5] rfl ?_
    refine aw_aload_n dX6_shape_168 3 rfl ?_
    refine aw_callVi [] [] (sp_X6_free (d := d - 1) (by omega) hT) dX6_shape_169 ml_X6_151 im_X6_free (hT.s 0 (by decide)) (hT.n 0 (by decide)) rfl rfl (dl1 (d := d) (by omega)) rfl rfl (Nat.le_of_ble_eq_true rfl) rfl rfl (Nat.zero_le _) (Nat.zero_le _) ?_
    refine aw_topE hl ?_
    refine aw_istore [(5, .int (-1)), (4, .int (nI n)), (3, .int 0), (0, .ref 0), (1, .int (nI s)), (2, .int (nI t))] dX6_shape_172 (Nat.le_of_ble_eq_true rfl) rfl ?_
    refine aw_iload dX6_shape_174 0 rfl ?_
    refine aw_if_ge 187 dX6_shape_176 (by decide) (fun c1 => absurd c1 (by decide)) (fun c1 => ?_)
    refine aw_aload_n dX6_shape_179 3 rfl ?_
    refine aw_bipush (v := -3) dX6_shape_180 (by decide) ?_
    refine aw_iconst (v := -1) dX6_shape_182 (by decide) ?_
    refine aw_callVi [.int (-3), .int (-1)] [] (sp_X6_tells (d := d - 1) (by omega) (-3) (-1) hT) dX6_shape_183 ml_X6_192 im_X6_tells (hT.s 0 (by decide)) (hT.n 0 (by decide)) rfl rfl (dl1 (d := d) (by omega)) rfl rfl (Nat.le_of_ble_eq_true rfl) rfl rfl (Nat.zero_le _) (Nat.zero_le _) ?_
    refine aw_iret dX6_shape_186 rfl (Nat.zero_le _) (Nat.zero_le _) ?_
    exact ⟨rfl, rfl⟩
  have hgo : AW (fX6_shape d) 111 [(5, .int (nI 0)), (4, .int (nI n)), (3, .int 0), (0, .ref 0), (1, .int (nI s)), (2, .int (nI t))] [] M 0 0 _ := rs_all (K := K) hd hT hs ht hn hk hW hW12 hV hN n 0 [] (by omega) (fun k _ k2 => h k k2) hend
  by_cases hzz : zt ≤ zs
  · refine aw_iload_n dX6_shape_0 1 rfl ?_
    refine aw_i2lN s dX6_shape_1 rfl (by omega) ?_
    refine aw_callSi [.long (lN s)] [] (sp_X6_isThing (d := d - 1) (by omega) (lN s) ) dX6_shape_2 ml_X6_159 sm_X6_isThing rfl (dl1 (d := d) (by omega)) rfl rfl (Nat.le_of_ble_eq_true rfl) rfl rfl (Nat.zero_le _) (Nat.zero_le _) ?_
    refine aw_if_eq 16 dX6_shape_5 (by decide) (fun c1 => absurd c1 (bz_n0.mpr h1)) (fun c1 => ?_)
    refine aw_iload_n dX6_shape_8 2 rfl ?_
    refine aw_i2lN t dX6_shape_9 rfl (by omega) ?_
    refine aw_callSi [.long (lN t)] [] (sp_X6_isThing (d := d - 1) (by omega) (lN t) ) dX6_shape_10 ml_X6_159 sm_X6_isThing rfl (dl1 (d := d) (by omega)) rfl rfl (Nat.le_of_ble_eq_true rfl) rfl rfl (Nat.zero_le _) (Nat.zero_le _) ?_
    refine aw_if_ne 23 dX6_shape_13 (by decide) (fun c2 => ?_) (fun c2 => absurd c2 (bz_n0.mpr h2))
    refine aw_aload_n dX6_shape_23 0 rfl ?_
    refine aw_iload_n dX6_shape_24 1 rfl ?_
    refine aw_iload_n dX6_shape_25 2 rfl ?_
    refine aw_callVi [.int (nI s), .int (nI t)] [] (sp_X6_refusalOfTwo (d := d - 1) (by omega) (nI s) (nI t) hT (vp_in_nI (by omega) (by decide)) (vp_in_nI (by omega) (by decide))) dX6_shape_26 ml_X6_217 im_X6_refusalOfTwo (hT.s 0 (by decide)) (hT.n 0 (by decide)) rfl rfl (dl1 (d := d) (by omega)) rfl rfl (Nat.le_of_ble_eq_true rfl) rfl rfl (Nat.zero_le _) (Nat.zero_le _) ?_
    refine aw_topE h3 ?_
    refine aw_istore_n [(3, .int 0), (0, .ref 0), (1, .int (nI s)), (2, .int (nI t))] dX6_shape_29 (Nat.le_of_ble_eq_true rfl) rfl ?_
    refine aw_iload_n dX6_shape_30 0 rfl ?_
    refine aw_if_ne 65 dX6_shape_31 (by decide) (fun c3 => absurd rfl c3) (fun c3 => ?_)
    refine aw_aload_n dX6_shape_34 1 rfl ?_
    refine aw_getR (b := 1) dX6_shape_35 fl_X6_7 rfl (hT.s 0 (by decide)) (hT.n 0 (by decide)) (hT.r 0) ?_
    refine aw_iload_n dX6_shape_38 2 rfl ?_
    refine aw_ialdN s dX6_shape_39 (hT.s 1 (by decide)) (hT.n 1 (by decide)) rfl (by omega) (by first | decide | omega) ?_
    refine aw_topE hc ?_
    refine aw_bipush (v := 9) dX6_shape_40 (by decide) ?_
    refine aw_icmp_eqN 9 9 50 dX6_shape_42 (by decide) rfl rfl (by omega) (by omega) (fun c4 => ?_) (fun c4 => absurd rfl c4)
    refine aw_aload_n dX6_shape_50 1 rfl ?_
    refine aw_iload_n dX6_shape_51 3 rfl ?_
    refine aw_callVi [.int (nI t)] [] (sp_X6_isPlain (d := d - 1) (by omega) (nI t) hT (vp_in_nI (by omega) (by decide))) dX6_shape_52 ml_X6_183 im_X6_isPlain (hT.s 0 (by decide)) (hT.n 0 (by decide)) rfl rfl (dl1 (d := d) (by omega)) rfl rfl (Nat.le_of_ble_eq_true rfl) rfl rfl (Nat.zero_le _) (Nat.zero_le _) ?_
    refine aw_if_ne 63 dX6_shape_55 (by decide) (fun c5 => ?_) (fun c5 => absurd c5 (bz_n0.mpr h5))
    refine aw_iconst (v := 0) dX6_shape_63 (by decide) ?_
    refine aw_istore_n [(3, .int 0), (0, .ref 0), (1, .int (nI s)), (2, .int (nI t))] dX6_shape_64 (Nat.le_of_ble_eq_true rfl) rfl ?_
    refine aw_iload_n dX6_shape_65 0 rfl ?_
    refine aw_if_ge 76 dX6_shape_66 (by decide) (fun c6 => ?_) (fun c6 => absurd (by decide) c6)
    refine aw_aload_n dX6_shape_76 1 rfl ?_
    refine aw_getR (b := 2) dX6_shape_77 fl_X6_13 rfl (hT.s 0 (by decide)) (hT.n 0 (by decide)) (hT.r 1) ?_
    refine aw_iload_n dX6_shape_80 2 rfl ?_
    refine aw_ialdN s dX6_shape_81 (hT.s 2 (by decide)) (hT.n 2 (by decide)) rfl (by omega) (by first | decide | omega) ?_
    refine aw_topE hzs ?_
    refine aw_aload_n dX6_shape_82 1 rfl ?_
    refine aw_getR (b := 2) dX6_shape_83 fl_X6_13 rfl (hT.s 0 (by decide)) (hT.n 0 (by decide)) (hT.r 1) ?_
    refine aw_iload_n dX6_shape_86 3 rfl ?_
    refine aw_ialdN t dX6_shape_87 (hT.s 2 (by decide)) (hT.n 2 (by decide)) rfl (by omega) (by first | decide | omega) ?_
    refine aw_topE hzt ?_
    refine aw_icmp_geN zs zt 100 dX6_shape_88 (by decide) rfl rfl (by omega) (by omega) (fun c7 => ?_) (fun c7 => absurd (by omega) c7)
    refine aw_aload_n dX6_shape_100 1 rfl ?_
    refine aw_getR (b := 2) dX6_shape_101 fl_X6_13 rfl (hT.s 0 (by decide)) (hT.n 0 (by decide)) (hT.r 1) ?_
    refine aw_iload_n dX6_shape_104 3 rfl ?_
    refine aw_ialdN t dX6_shape_105 (hT.s 2 (by decide)) (hT.n 2 (by decide)) rfl (by omega) (by first | decide | omega) ?_
    refine aw_topE hzt ?_
    refine aw_topE (show nI zt = nI n by rw [hm]; refine congrArg nI ?_; omega) ?_
    refine aw_istore [(4, .int (nI n)), (3, .int 0), (0, .ref 0), (1, .int (nI s)), (2, .int (nI t))] dX6_shape_106 (Nat.le_of_ble_eq_true rfl) rfl ?_
    refine aw_iconst (v := 0) dX6_shape_108 (by decide) ?_
    refine aw_istore [(5, .int 0), (4, .int (nI n)), (3, .int 0), (0, .ref 0), (1, .int (nI s)), (2, .int (nI t))] dX6_shape_109 (Nat.le_of_ble_eq_true rfl) rfl ?_
    exact hgo
  · refine aw_iload_n dX6_shape_0 1 rfl ?_
    refine aw_i2lN s dX6_shape_1 rfl (by omega) ?_
    refine aw_callSi [.long (lN s)] [] (sp_X6_isThing (d := d - 1) (by omega) (lN s) ) dX6_shape_2 ml_X6_159 sm_X6_isThing rfl (dl1 (d := d) (by omega)) rfl rfl (Nat.le_of_ble_eq_true rfl) rfl rfl (Nat.zero_le _) (Nat.zero_le _) ?_
    refine aw_if_eq 16 dX6_shape_5 (by decide) (fun c1 => absurd c1 (bz_n0.mpr h1)) (fun c1 => ?_)
    refine aw_iload_n dX6_shape_8 2 rfl ?_
    refine aw_i2lN t dX6_shape_9 rfl (by omega) ?_
    refine aw_callSi [.long (lN t)] [] (sp_X6_isThing (d := d - 1) (by omega) (lN t) ) dX6_shape_10 ml_X6_159 sm_X6_isThing rfl (dl1 (d := d) (by omega)) rfl rfl (Nat.le_of_ble_eq_true rfl) rfl rfl (Nat.zero_le _) (Nat.zero_le _) ?_
    refine aw_if_ne 23 dX6_shape_13 (by decide) (fun c2 => ?_) (fun c2 => absurd c2 (bz_n0.mpr h2))
    refine aw_aload_n dX6_shape_23 0 rfl ?_
    refine aw_iload_n dX6_shape_24 1 rfl ?_
    refine aw_iload_n dX6_shape_25 2 rfl ?_
    refine aw_callVi [.int (nI s), .int (nI t)] [] (sp_X6_refusalOfTwo (d := d - 1) (by omega) (nI s) (nI t) hT (vp_in_nI (by omega) (by decide)) (vp_in_nI (by omega) (by decide))) dX6_shape_26 ml_X6_217 im_X6_refusalOfTwo (hT.s 0 (by decide)) (hT.n 0 (by decide)) rfl rfl (dl1 (d := d) (by omega)) rfl rfl (Nat.le_of_ble_eq_true rfl) rfl rfl (Nat.zero_le _) (Nat.zero_le _) ?_
    refine aw_topE h3 ?_
    refine aw_istore_n [(3, .int 0), (0, .ref 0), (1, .int (nI s)), (2, .int (nI t))] dX6_shape_29 (Nat.le_of_ble_eq_true rfl) rfl ?_
    refine aw_iload_n dX6_shape_30 0 rfl ?_
    refine aw_if_ne 65 dX6_shape_31 (by decide) (fun c3 => absurd rfl c3) (fun c3 => ?_)
    refine aw_aload_n dX6_shape_34 1 rfl ?_
    refine aw_getR (b := 1) dX6_shape_35 fl_X6_7 rfl (hT.s 0 (by decide)) (hT.n 0 (by decide)) (hT.r 0) ?_
    refine aw_iload_n dX6_shape_38 2 rfl ?_
    refine aw_ialdN s dX6_shape_39 (hT.s 1 (by decide)) (hT.n 1 (by decide)) rfl (by omega) (by first | decide | omega) ?_
    refine aw_topE hc ?_
    refine aw_bipush (v := 9) dX6_shape_40 (by decide) ?_
    refine aw_icmp_eqN 9 9 50 dX6_shape_42 (by decide) rfl rfl (by omega) (by omega) (fun c4 => ?_) (fun c4 => absurd rfl c4)
    refine aw_aload_n dX6_shape_50 1 rfl ?_
    refine aw_iload_n dX6_shape_51 3 rfl ?_
    refine aw_callVi [.int (nI t)] [] (sp_X6_isPlain (d := d - 1) (by omega) (nI t) hT (vp_in_nI (by omega) (by decide))) dX6_shape_52 ml_X6_183 im_X6_isPlain (hT.s 0 (by decide)) (hT.n 0 (by decide)) rfl rfl (dl1 (d := d) (by omega)) rfl rfl (Nat.le_of_ble_eq_true rfl) rfl rfl (Nat.zero_le _) (Nat.zero_le _) ?_
    refine aw_if_ne 63 dX6_shape_55 (by decide) (fun c5 => ?_) (fun c5 => absurd c5 (bz_n0.mpr h5))
    refine aw_iconst (v := 0) dX6_shape_63 (by decide) ?_
    refine aw_istore_n [(3, .int 0), (0, .ref 0), (1, .int (nI s)), (2, .int (nI t))] dX6_shape_64 (Nat.le_of_ble_eq_true rfl) rfl ?_
    refine aw_iload_n dX6_shape_65 0 rfl ?_
    refine aw_if_ge 76 dX6_shape_66 (by decide) (fun c6 => ?_) (fun c6 => absurd (by decide) c6)
    refine aw_aload_n dX6_shape_76 1 rfl ?_
    refine aw_getR (b := 2) dX6_shape_77 fl_X6_13 rfl (hT.s 0 (by decide)) (hT.n 0 (by decide)) (hT.r 1) ?_
    refine aw_iload_n dX6_shape_80 2 rfl ?_
    refine aw_ialdN s dX6_shape_81 (hT.s 2 (by decide)) (hT.n 2 (by decide)) rfl (by omega) (by first | decide | omega) ?_
    refine aw_topE hzs ?_
    refine aw_aload_n dX6_shape_82 1 rfl ?_
    refine aw_getR (b := 2) dX6_shape_83 fl_X6_13 rfl (hT.s 0 (by decide)) (hT.n 0 (by decide)) (hT.r 1) ?_
    refine aw_iload_n dX6_shape_86 3 rfl ?_
    refine aw_ialdN t dX6_shape_87 (hT.s 2 (by decide)) (hT.n 2 (by decide)) rfl (by omega) (by first | decide | omega) ?_
    refine aw_topE hzt ?_
    refine aw_icmp_geN zs zt 100 dX6_shape_88 (by decide) rfl rfl (by omega) (by omega) (fun c7 => absurd c7 (by omega)) (fun c7 => ?_)
    refine aw_aload_n dX6_shape_91 1 rfl ?_
    refine aw_getR (b := 2) dX6_shape_92 fl_X6_13 rfl (hT.s 0 (by decide)) (hT.n 0 (by decide)) (hT.r 1) ?_
    refine aw_iload_n dX6_shape_95 2 rfl ?_
    refine aw_ialdN s dX6_shape_96 (hT.s 2 (by decide)) (hT.n 2 (by decide)) rfl (by omega) (by first | decide | omega) ?_
    refine aw_topE hzs ?_
    refine aw_goto 106 dX6_shape_97 (by decide) ?_
    refine aw_topE (show nI zs = nI n by rw [hm]; refine congrArg nI ?_; omega) ?_
    refine aw_istore [(4, .int (nI n)), (3, .int 0), (0, .ref 0), (1, .int (nI s)), (2, .int (nI t))] dX6_shape_106 (Nat.le_of_ble_eq_true rfl) rfl ?_
    refine aw_iconst (v := 0) dX6_shape_108 (by decide) ?_
    refine aw_istore [(5, .int 0), (4, .int (nI n)), (3, .int 0), (0, .ref 0), (1, .int (nI s)), (2, .int (nI t))] dX6_shape_109 (Nat.le_of_ble_eq_true rfl) rfl ?_
    exact hgo
theorem sp_X6_shape_ok {d : Nat} (hd : 3 ≤ d) {M : xM} {s t n a zs zt : Nat} {W K : Nat → Nat} {V : Nat → Int64} (h1 : sX6_isThing (lN s) = true) (h2 : sX6_isThing (lN t) = true) (h3 : sX6_refusalOfTwo M (nI s) (nI t) = 0) (hc : mI M 1 s = nI 9) (h5 : sX6_isPlain M (nI t) = true) (hzs : mI M 2 s = nI zs) (hzt : mI M 2 t = nI zt) (hz1 : zs ≤ 12) (hz2 : zt ≤ 12) (hm : n = min zs zt) (hT : TR M) (hs : s < 12) (ht : t < 12) (hn : n ≤ 12) (hk : mI M 1 t = nI a) (hW : ∀ k, k < n → mI M 4 (12 * s + k) = nI (W k)) (hW12 : ∀ k, k < n → W k < 12) (hV : ∀ k, k < n → mL M 5 (12 * s + k) = V k) (hN : ∀ k, k < 16 → mL M 18 k = tNAMES.getD k 0) (h : ∀ k, k < n → rin (W k) (V k) = nI (K k) ∧ K k < 8 ∧ sX6_turns (nI a) (nI (K k)) = true) {U T : Nat → Int64} (f : Nat) (hf : f < 12) (hl : sX6_free M = nI f) (hsf : s ≠ f) (htf : t ≠ f) (ha : a < 8) (hTt : ∀ k, k < n → mL M 5 (12 * t + k) = T k) (hU : ∀ k, k < n → U k = wid a (K k) (T k)) (h6 : ∀ k, k < n → a = 6 → okF 6 (T k)) : Sp (fX6_shape d) [.ref 0, .int (nI s), .int (nI t)] M (dt (some (.int (nI f))) (tX6_tells (cvY M f 12 n K U n) 0 (-1))) := by
  refine Sp.of pn_X6 (Nat.le_of_ble_eq_true rfl) (fun h => Bool.noConfusion h) ?_
  have hend : ∀ lv6 : List (Nat × Value), AW (fX6_shape d) 168 ([(5, .int (nI n)), (4, .int (nI n)), (3, .int 0), (0, .ref 0), (1, .int (nI s)), (2, .int (nI t))] ++ lv6) [] M 0 0 (dt (some (.int (nI f))) (tX6_tells (cvY M f 12 n K U n) 0 (-1))) := by
    intro lv6
    refine aw_sub [0, 1, 2, 3, 4, 5] rfl ?_
    refine aw_aload_n dX6_shape_168 3 rfl ?_
    refine aw_callVi [] [] (sp_X6_free (d := d - 1) (by omega) hT) dX6_shape_169 ml_X6_151 im_X6_free (hT.s 0 (by decide)) (hT.n 0 (by decide)) rfl rfl (dl1 (d := d) (by omega)) rfl rfl (Nat.le_of_ble_eq_true rfl) rfl rfl (Nat.zero_le _) (Nat.zero_le _) ?_
    refine aw_topE hl ?_
    refine aw_istore [(5, .int (nI f)), (4, .int (nI n)), (3, .int 0), (0, .ref 0), (1, .int (nI s)), (2, .int (nI t))] dX6_shape_172 (Nat.le_of_ble_eq_true rfl) rfl ?_
    refine aw_iload dX6_shape_174 0 rfl ?_
    refine aw_if_ge 187 dX6_shape_176 (by decide) (fun c1 => ?_) (fun c1 => absurd ((by decide : ∀ f, f < 12 → 0 ≤ nI f) f hf) c1)
    refine aw_aload_n dX6_shape_187 3 rfl ?_
    refine aw_iload dX6_shape_188 0 rfl ?_
    refine aw_bipush (v := 12) dX6_shape_190 (by decide) ?_
    refine aw_iload dX6_shape_192 1 rfl ?_
    refine aw_callVv [.int (nI f), .int 12, .int (nI n)] [] (sp_X6_begins (d := d - 1) (by omega) f (nI 12) (nI n) hT (by omega)) dX6_shape_194 ml_X6_155 im_X6_begins (hT.s 0 (by decide)) (hT.n 0 (by decide)) rfl rfl (dl1 (d := d) (by omega)) rfl rfl (Nat.le_of_ble_eq_true rfl) rfl rfl (Nat.zero_le _) (Nat.zero_le _) ?_
    refine aw_iconst (v := 0) dX6_shape_197 (by decide) ?_
    refine aw_istore [(6, .int 0), (5, .int (nI f)), (4, .int (nI n)), (3, .int 0), (0, .ref 0), (1, .int (nI s)), (2, .int (nI t))] dX6_shape_198 (Nat.le_of_ble_eq_true rfl) rfl ?_
    refine aw_eqM (show _ = cvY M f 12 n K U 0 from (flIL_0 _ _ _ _ _ _ _).symm) ?_
    exact rs_l2 hd hT hs ht hn hk hW hW12 hV hN hf hsf htf ha (fun k hk => ⟨(h k hk).1, (h k hk).2.1⟩) hTt hU h6 n 0 [] (by omega)
  have hgo : AW (fX6_shape d) 111 [(5, .int (nI 0)), (4, .int (nI n)), (3, .int 0), (0, .ref 0), (1, .int (nI s)), (2, .int (nI t))] [] M 0 0 _ := rs_all (K := K) hd hT hs ht hn hk hW hW12 hV hN n 0 [] (by omega) (fun k _ k2 => h k k2) hend
  by_cases hzz : zt ≤ zs
  · refine aw_iload_n dX6_shape_0 1 rfl ?_
    refine aw_i2lN s dX6_shape_1 rfl (by omega) ?_
    refine aw_callSi [.long (lN s)] [] (sp_X6_isThing (d := d - 1) (by omega) (lN s) ) dX6_shape_2 ml_X6_159 sm_X6_isThing rfl (dl1 (d := d) (by omega)) rfl rfl (Nat.le_of_ble_eq_true rfl) rfl rfl (Nat.zero_le _) (Nat.zero_le _) ?_
    refine aw_if_eq 16 dX6_shape_5 (by decide) (fun c1 => absurd c1 (bz_n0.mpr h1)) (fun c1 => ?_)
    refine aw_iload_n dX6_shape_8 2 rfl ?_
    refine aw_i2lN t dX6_shape_9 rfl (by omega) ?_
    refine aw_callSi [.long (lN t)] [] (sp_X6_isThing (d := d - 1) (by omega) (lN t) ) dX6_shape_10 ml_X6_159 sm_X6_isThing rfl (dl1 (d := d) (by omega)) rfl rfl (Nat.le_of_ble_eq_true rfl) rfl rfl (Nat.zero_le _) (Nat.zero_le _) ?_
    refine aw_if_ne 23 dX6_shape_13 (by decide) (fun c2 => ?_) (fun c2 => absurd c2 (bz_n0.mpr h2))
    refine aw_aload_n dX6_shape_23 0 rfl ?_
    refine aw_iload_n dX6_shape_24 1 rfl ?_
    refine aw_iload_n dX6_shape_25 2 rfl ?_
    refine aw_callVi [.int (nI s), .int (nI t)] [] (sp_X6_refusalOfTwo (d := d - 1) (by omega) (nI s) (nI t) hT (vp_in_nI (by omega) (by decide)) (vp_in_nI (by omega) (by decide))) dX6_shape_26 ml_X6_217 im_X6_refusalOfTwo (hT.s 0 (by decide)) (hT.n 0 (by decide)) rfl rfl (dl1 (d := d) (by omega)) rfl rfl (Nat.le_of_ble_eq_true rfl) rfl rfl (Nat.zero_le _) (Nat.zero_le _) ?_
    refine aw_topE h3 ?_
    refine aw_istore_n [(3, .int 0), (0, .ref 0), (1, .int (nI s)), (2, .int (nI t))] dX6_shape_29 (Nat.le_of_ble_eq_true rfl) rfl ?_
    refine aw_iload_n dX6_shape_30 0 rfl ?_
    refine aw_if_ne 65 dX6_shape_31 (by decide) (fun c3 => absurd rfl c3) (fun c3 => ?_)
    refine aw_aload_n dX6_shape_34 1 rfl ?_
    refine aw_getR (b := 1) dX6_shape_35 fl_X6_7 rfl (hT.s 0 (by decide)) (hT.n 0 (by decide)) (hT.r 0) ?_
    refine aw_iload_n dX6_shape_38 2 rfl ?_
    refine aw_ialdN s dX6_shape_39 (hT.s 1 (by decide)) (hT.n 1 (by decide)) rfl (by omega) (by first | decide | omega) ?_
    refine aw_topE hc ?_
    refine aw_bipush (v := 9) dX6_shape_40 (by decide) ?_
    refine aw_icmp_eqN 9 9 50 dX6_shape_42 (by decide) rfl rfl (by omega) (by omega) (fun c4 => ?_) (fun c4 => absurd rfl c4)
    refine aw_aload_n dX6_shape_50 1 rfl ?_
    refine aw_iload_n dX6_shape_51 3 rfl ?_
    refine aw_callVi [.int (nI t)] [] (sp_X6_isPlain (d := d - 1) (by omega) (nI t) hT (vp_in_nI (by omega) (by decide))) dX6_shape_52 ml_X6_183 im_X6_isPlain (hT.s 0 (by decide)) (hT.n 0 (by decide)) rfl rfl (dl1 (d := d) (by omega)) rfl rfl (Nat.le_of_ble_eq_true rfl) rfl rfl (Nat.zero_le _) (Nat.zero_le _) ?_
    refine aw_if_ne 63 dX6_shape_55 (by decide) (fun c5 => ?_) (fun c5 => absurd c5 (bz_n0.mpr h5))
    refine aw_iconst (v := 0) dX6_shape_63 (by decide) ?_
    refine aw_istore_n [(3, .int 0), (0, .ref 0), (1, .int (nI s)), (2, .int (nI t))] dX6_shape_64 (Nat.le_of_ble_eq_true rfl) rfl ?_
    refine aw_iload_n dX6_shape_65 0 rfl ?_
    refine aw_if_ge 76 dX6_shape_66 (by decide) (fun c6 => ?_) (fun c6 => absurd (by decide) c6)
    refine aw_aload_n dX6_shape_76 1 rfl ?_
    refine aw_getR (b := 2) dX6_shape_77 fl_X6_13 rfl (hT.s 0 (by decide)) (hT.n 0 (by decide)) (hT.r 1) ?_
    refine aw_iload_n dX6_shape_80 2 rfl ?_
    refine aw_ialdN s dX6_shape_81 (hT.s 2 (by decide)) (hT.n 2 (by decide)) rfl (by omega) (by first | decide | omega) ?_
    refine aw_topE hzs ?_
    refine aw_aload_n dX6_shape_82 1 rfl ?_
    refine aw_getR (b := 2) dX6_shape_83 fl_X6_13 rfl (hT.s 0 (by decide)) (hT.n 0 (by decide)) (hT.r 1) ?_
    refine aw_iload_n dX6_shape_86 3 rfl ?_
    refine aw_ialdN t dX6_shape_87 (hT.s 2 (by decide)) (hT.n 2 (by decide)) rfl (by omega) (by first | decide | omega) ?_
    refine aw_topE hzt ?_
    refine aw_icmp_geN zs zt 100 dX6_shape_88 (by decide) rfl rfl (by omega) (by omega) (fun c7 => ?_) (fun c7 => absurd (by omega) c7)
    refine aw_aload_n dX6_shape_100 1 rfl ?_
    refine aw_getR (b := 2) dX6_shape_101 fl_X6_13 rfl (hT.s 0 (by decide)) (hT.n 0 (by decide)) (hT.r 1) ?_
    refine aw_iload_n dX6_shape_104 3 rfl ?_
    refine aw_ialdN t dX6_shape_105 (hT.s 2 (by decide)) (hT.n 2 (by decide)) rfl (by omega) (by first | decide | omega) ?_
    refine aw_topE hzt ?_
    refine aw_topE (show nI zt = nI n by rw [hm]; refine congrArg nI ?_; omega) ?_
    refine aw_istore [(4, .int (nI n)), (3, .int 0), (0, .ref 0), (1, .int (nI s)), (2, .int (nI t))] dX6_shape_106 (Nat.le_of_ble_eq_true rfl) rfl ?_
    refine aw_iconst (v := 0) dX6_shape_108 (by decide) ?_
    refine aw_istore [(5, .int 0), (4, .int (nI n)), (3, .int 0), (0, .ref 0), (1, .int (nI s)), (2, .int (nI t))] dX6_shape_109 (Nat.le_of_ble_eq_true rfl) rfl ?_
    exact hgo
  · refine aw_iload_n dX6_shape_0 1 rfl ?_
    refine aw_i2lN s dX6_shape_1 rfl (by omega) ?_
    refine aw_callSi [.long (lN s)] [] (sp_X6_isThing (d := d - 1) (by omega) (lN s) ) dX6_shape_2 ml_X6_159 sm_X6_isThing rfl (dl1 (d := d) (by omega)) rfl rfl (Nat.le_of_ble_eq_true rfl) rfl rfl (Nat.zero_le _) (Nat.zero_le _) ?_
    refine aw_if_eq 16 dX6_shape_5 (by decide) (fun c1 => absurd c1 (bz_n0.mpr h1)) (fun c1 => ?_)
    refine aw_iload_n dX6_shape_8 2 rfl ?_
    refine aw_i2lN t dX6_shape_9 rfl (by omega) ?_
    refine aw_callSi [.long (lN t)] [] (sp_X6_isThing (d := d - 1) (by omega) (lN t) ) dX6_shape_10 ml_X6_159 sm_X6_isThing rfl (dl1 (d := d) (by omega)) rfl rfl (Nat.le_of_ble_eq_true rfl) rfl rfl (Nat.zero_le _) (Nat.zero_le _) ?_
    refine aw_if_ne 23 dX6_shape_13 (by decide) (fun c2 => ?_) (fun c2 => absurd c2 (bz_n0.mpr h2))
    refine aw_aload_n dX6_shape_23 0 rfl ?_
    refine aw_iload_n dX6_shape_24 1 rfl ?_
    refine aw_iload_n dX6_shape_25 2 rfl ?_
    refine aw_callVi [.int (nI s), .int (nI t)] [] (sp_X6_refusalOfTwo (d := d - 1) (by omega) (nI s) (nI t) hT (vp_in_nI (by omega) (by decide)) (vp_in_nI (by omega) (by decide))) dX6_shape_26 ml_X6_217 im_X6_refusalOfTwo (hT.s 0 (by decide)) (hT.n 0 (by decide)) rfl rfl (dl1 (d := d) (by omega)) rfl rfl (Nat.le_of_ble_eq_true rfl) rfl rfl (Nat.zero_le _) (Nat.zero_le _) ?_
    refine aw_topE h3 ?_
    refine aw_istore_n [(3, .int 0), (0, .ref 0), (1, .int (nI s)), (2, .int (nI t))] dX6_shape_29 (Nat.le_of_ble_eq_true rfl) rfl ?_
    refine aw_iload_n dX6_shape_30 0 rfl ?_
    refine aw_if_ne 65 dX6_shape_31 (by decide) (fun c3 => absurd rfl c3) (fun c3 => ?_)
    refine aw_aload_n dX6_shape_34 1 rfl ?_
    refine aw_getR (b := 1) dX6_shape_35 fl_X6_7 rfl (hT.s 0 (by decide)) (hT.n 0 (by decide)) (hT.r 0) ?_
    refine aw_iload_n dX6_shape_38 2 rfl ?_
    refine aw_ialdN s dX6_shape_39 (hT.s 1 (by decide)) (hT.n 1 (by decide)) rfl (by omega) (by first | decide | omega) ?_
    refine aw_topE hc ?_
    refine aw_bipush (v := 9) dX6_shape_40 (by decide) ?_
    refine aw_icmp_eqN 9 9 50 dX6_shape_42 (by decide) rfl rfl (by omega) (by omega) (fun c4 => ?_) (fun c4 => absurd rfl c4)
    refine aw_aload_n dX6_shape_50 1 rfl ?_
    refine aw_iload_n dX6_shape_51 3 rfl ?_
    refine aw_callVi [.int (nI t)] [] (sp_X6_isPlain (d := d - 1) (by omega) (nI t) hT (vp_in_nI (by omega) (by decide))) dX6_shape_52 ml_X6_183 im_X6_isPlain (hT.s 0 (by decide)) (hT.n 0 (by decide)) rfl rfl (dl1 (d := d) (by omega)) rfl rfl (Nat.le_of_ble_eq_true rfl) rfl rfl (Nat.zero_le _) (Nat.zero_le _) ?_
    refine aw_if_ne 63 dX6_shape_55 (by decide) (fun c5 => ?_) (fun c5 => absurd c5 (bz_n0.mpr h5))
    refine aw_iconst (v := 0) dX6_shape_63 (by decide) ?_
    refine aw_istore_n [(3, .int 0), (0, .ref 0), (1, .int (nI s)), (2, .int (nI t))] dX6_shape_64 (Nat.le_of_ble_eq_true rfl) rfl ?_
    refine aw_iload_n dX6_shape_65 0 rfl ?_
    refine aw_if_ge 76 dX6_shape_66 (by decide) (fun c6 => ?_) (fun c6 => absurd (by decide) c6)
    refine aw_aload_n dX6_shape_76 1 rfl ?_
    refine aw_getR (b := 2) dX6_shape_77 fl_X6_13 rfl (hT.s 0 (by decide)) (hT.n 0 (by decide)) (hT.r 1) ?_
    refine aw_iload_n dX6_shape_80 2 rfl ?_
    refine aw_ialdN s dX6_shape_81 (hT.s 2 (by decide)) (hT.n 2 (by decide)) rfl (by omega) (by first | decide | omega) ?_
    refine aw_topE hzs ?_
    refine aw_aload_n dX6_shape_82 1 rfl ?_
    refine aw_getR (b := 2) dX6_shape_83 fl_X6_13 rfl (hT.s 0 (by decide)) (hT.n 0 (by decide)) (hT.r 1) ?_
    refine aw_iload_n dX6_shape_86 3 rfl ?_
    refine aw_ialdN t dX6_shape_87 (hT.s 2 (by decide)) (hT.n 2 (by decide)) rfl (by omega) (by first | decide | omega) ?_
    refine aw_topE hzt ?_
    refine aw_icmp_geN zs zt 100 dX6_shape_88 (by decide) rfl rfl (by omega) (by omega) (fun c7 => absurd c7 (by omega)) (fun c7 => ?_)
    refine aw_aload_n dX6_shape_91 1 rfl ?_
    refine aw_getR (b := 2) dX6_shape_92 fl_X6_13 rfl (hT.s 0 (by decide)) (hT.n 0 (by decide)) (hT.r 1) ?_
    refine aw_iload_n dX6_shape_95 2 rfl ?_
    refine aw_ialdN s dX6_shape_96 (hT.s 2 (by decide)) (hT.n 2 (by decide)) rfl (by omega) (by first | decide | omega) ?_
    refine aw_topE hzs ?_
    refine aw_goto 106 dX6_shape_97 (by decide) ?_
    refine aw_topE (show nI zs = nI n by rw [hm]; refine congrArg nI ?_; omega) ?_
    refine aw_istore [(4, .int (nI n)), (3, .int 0), (0, .ref 0), (1, .int (nI s)), (2, .int (nI t))] dX6_shape_106 (Nat.le_of_ble_eq_true rfl) rfl ?_
    refine aw_iconst (v := 0) dX6_shape_108 (by decide) ?_
    refine aw_istore [(5, .int 0), (4, .int (nI n)), (3, .int 0), (0, .ref 0), (1, .int (nI s)), (2, .int (nI t))] dX6_shape_109 (Nat.le_of_ble_eq_true rfl) rfl ?_
    exact hgo
