-- MAKE, COPYOF
theorem lst_or (p : Nat → Bool) : ∀ (n i : Nat), lst p n i = -1 ∨ ∃ j, i ≤ j ∧ j < i + n ∧ lst p n i = nI j ∧ p j = true
  | 0, _ => Or.inl rfl
  | n + 1, i => by
    cases h : p i with
    | true => exact Or.inr ⟨i, Nat.le_refl i, by omega, lst_t n h, h⟩
    | false =>
      rw [lst_f n h]
      rcases lst_or p n (i + 1) with e | ⟨j, h1, h2, h3, h4⟩
      · exact Or.inl e
      · exact Or.inr ⟨j, by omega, by omega, h3, h4⟩
theorem lst_vp {p : Nat → Bool} (h : 0 ≤ lst p 12 0) : vp_in (lst p 12 0) 12 := by
  rcases lst_or p 12 0 with e | ⟨j, h1, h2, h3, h4⟩
  · rw [e] at h; exact absurd h (by decide)
  · rw [h3]; exact vp_in_nI (by omega) (by decide)
theorem low_vp {M : xM} (h : 0 ≤ sX5_lowestEmpty M) : vp_in (sX5_lowestEmpty M) 12 := lst_vp h
theorem free_vp {M : xM} (h : 0 ≤ sX6_free M) : vp_in (sX6_free M) 12 := lst_vp h
theorem l2i_vp {x : Int64} {n : Nat} (hn : n < 100000) (h1 : ¬ x < 0) (h2 : ¬ lN n < x) : vp_in x.toInt32 (n + 1) := by
  have a1 : ¬ x.toInt < (0 : Int) := fun z => h1 (Int64.lt_iff_toInt_lt.mpr z)
  have a2 : ¬ (lN n).toInt < x.toInt := fun z => h2 (Int64.lt_iff_toInt_lt.mpr z)
  rw [pk_lT (by omega)] at a2
  rw [vp_in_iff, Int64.toInt_toInt32, Int.bmod_eq_of_le (by omega) (by omega)]
  omega
theorem cont_vp {x1 : Int32} {x2 : Int64} (h : ¬ bz (sX5_isContents x1 x2) = 0) (h14 : x1 < 14) : vp_in x2.toInt32 13 := by
  have h := bz_n0.mp h
  unfold sX5_isContents at h
  have n15 : ¬ x1 = 15 := fun e => by rw [e] at h14; exact absurd h14 (by decide)
  have n14 : ¬ x1 = 14 := fun e => by rw [e] at h14; exact absurd h14 (by decide)
  rw [if_neg n15] at h
  by_cases c1 : x2 < 0
  · rw [if_pos c1] at h; cases h
  · rw [if_neg c1, if_neg n14] at h
    by_cases c2 : (Int32.toInt64 12) < x2
    · rw [if_pos c2] at h; cases h
    · exact l2i_vp (n := 12) (by decide) c1 c2
def sX5_make (M : xM) (x1 : Int32) (x2 : Int64) : Int32 := (if x1 < 0 then -1 else (if 15 < x1 then -1 else (if (bz (sX5_isContents x1 x2)) = 0 then -1 else (if 0 ≤ (sX5_lowestEmpty M) then (if x1 < 14 then sX5_lowestEmpty M else sX5_lowestEmpty M) else -3))))
def tX5_make (M : xM) (x1 : Int32) (x2 : Int64) : xM := (if x1 < 0 then M else (if 15 < x1 then M else (if (bz (sX5_isContents x1 x2)) = 0 then M else (if 0 ≤ (sX5_lowestEmpty M) then (if x1 < 14 then (beaM M (54 + 3 * ((sX5_lowestEmpty M).toNatClampNeg)) x1 (Int64.toInt32 x2).toNatClampNeg) else (tX2_beThing M (54 + 3 * ((sX5_lowestEmpty M).toNatClampNeg)) x1 x2)) else M))))
theorem sT_X5_make (M : xM) (x1 : Int32) (x2 : Int64) : sT M (tX5_make M x1 x2) := (sT.ite (sT.rf M) (sT.ite (sT.rf M) (sT.ite (sT.rf M) (sT.ite (sT.ite ((sT.rf M).tr (sT_X2_beArray M (54 + 3 * ((sX5_lowestEmpty M).toNatClampNeg)) x1 (Int64.toInt32 x2).toNatClampNeg)) ((sT.rf M).tr (sT_X2_beThing M (54 + 3 * ((sX5_lowestEmpty M).toNatClampNeg)) x1 x2))) (sT.rf M)))))
theorem sp_X5_make {d : Nat} (hd : 3 ≤ d) {M : xM} (x1 : Int32) (x2 : Int64) (hT : TC M)  : Sp (fX5_make d) [.ref 0, .int x1, .long x2] M (dt (some (.int (sX5_make M x1 x2))) (tX5_make M x1 x2)) := by
  refine Sp.of pn_X5 (Nat.le_of_ble_eq_true rfl) (fun h => Bool.noConfusion h) ?_
  refine aw_iload_n dX5_make_0 1 rfl ?_
  refine aw_if_lt 18 dX5_make_1 (by decide) (fun c1 => ?_) (fun c1 => ?_)
  · refine aw_iconst (v := -1) dX5_make_18 (by decide) ?_
    refine aw_iret dX5_make_19 rfl (Nat.zero_le _) (Nat.zero_le _) ?_
    exact ⟨congrArg (fun z => some (Value.int z)) (show sX5_make M x1 x2 = -1 by unfold sX5_make; rw [if_pos c1]).symm, (show tX5_make M x1 x2 = M by unfold tX5_make; rw [if_pos c1]).symm⟩
  · refine aw_iload_n dX5_make_4 1 rfl ?_
    refine aw_bipush (v := 15) dX5_make_5 (by decide) ?_
    refine aw_icmp_gt 18 dX5_make_7 (by decide) (fun c2 => ?_) (fun c2 => ?_)
    · refine aw_iconst (v := -1) dX5_make_18 (by decide) ?_
      refine aw_iret dX5_make_19 rfl (Nat.zero_le _) (Nat.zero_le _) ?_
      exact ⟨congrArg (fun z => some (Value.int z)) (show sX5_make M x1 x2 = -1 by unfold sX5_make; rw [if_neg c1, if_pos c2]).symm, (show tX5_make M x1 x2 = M by unfold tX5_make; rw [if_neg c1, if_pos c2]).symm⟩
    · refine aw_iload_n dX5_make_10 1 rfl ?_
      refine aw_lload_n dX5_make_11 2 rfl ?_
      refine aw_callSi [.int x1, .long x2] [] (sp_X5_isContents (d := d - 1) (by omega) x1 x2 ) dX5_make_12 ml_X5_78 sm_X5_isContents rfl (dl1 (d := d) (by omega)) rfl rfl (Nat.le_of_ble_eq_true rfl) rfl rfl (Nat.zero_le _) (Nat.zero_le _) ?_
      refine aw_if_ne 20 dX5_make_15 (by decide) (fun c3 => ?_) (fun c3 => ?_)
      · refine aw_aload_n dX5_make_20 0 rfl ?_
        refine aw_callVi [] [] (sp_X5_lowestEmpty (d := d - 1) (by omega)  hT) dX5_make_21 ml_X5_82 im_X5_lowestEmpty (hT.s 0 (by decide)) (hT.n 0 (by decide)) rfl rfl (dl1 (d := d) (by omega)) rfl rfl (Nat.le_of_ble_eq_true rfl) rfl rfl (Nat.zero_le _) (Nat.zero_le _) ?_
        refine aw_istore [(4, .int (sX5_lowestEmpty M)), (0, .ref 0), (1, .int x1), (2, .long x2)] dX5_make_24 (Nat.le_of_ble_eq_true rfl) rfl ?_
        refine aw_iload dX5_make_26 0 rfl ?_
        refine aw_if_ge 34 dX5_make_28 (by decide) (fun c4 => ?_) (fun c4 => ?_)
        · refine aw_iload_n dX5_make_34 2 rfl ?_
          refine aw_bipush (v := 14) dX5_make_35 (by decide) ?_
          refine aw_icmp_lt 55 dX5_make_37 (by decide) (fun c5 => ?_) (fun c5 => ?_)
          · refine aw_aload_n dX5_make_55 1 rfl ?_
            refine aw_getR (b := 1) dX5_make_56 fl_X5_11 rfl (hT.s 0 (by decide)) (hT.n 0 (by decide)) (hT.r 0 0 (by decide) (by decide)) ?_
            refine aw_iload dX5_make_59 0 rfl ?_
            refine aw_aald (b := 54 + 3 * ((sX5_lowestEmpty M).toNatClampNeg)) dX5_make_61 (hT.s 1 (by decide)) (hT.n 1 (by decide)) (low_vp c4) (hT.slot (vp_lt (low_vp c4))) ?_
            refine aw_iload_n dX5_make_62 2 rfl ?_
            refine aw_lload_n dX5_make_63 3 rfl ?_
            refine aw_l2i dX5_make_64 ?_
            refine aw_callVv [.int x1, .int (Int64.toInt32 x2)] [] (sp_X2_beArrayI (d := d - 1) (by omega) x1 (Int64.toInt32 x2) (hT.row (t := ((sX5_lowestEmpty M).toNatClampNeg)) (vp_lt (low_vp c4))) (cont_vp c3 c5)) dX5_make_65 ml_X5_90 im_X2_beArray (hT.row (t := ((sX5_lowestEmpty M).toNatClampNeg)) (vp_lt (low_vp c4))).1 (hT.row (t := ((sX5_lowestEmpty M).toNatClampNeg)) (vp_lt (low_vp c4))).n0 rfl rfl (dl1 (d := d) (by omega)) rfl rfl (Nat.le_of_ble_eq_true rfl) rfl rfl (Nat.zero_le _) (Nat.zero_le _) ?_
            refine aw_iload dX5_make_68 0 rfl ?_
            refine aw_iret dX5_make_70 rfl (Nat.zero_le _) (Nat.zero_le _) ?_
            exact ⟨congrArg (fun z => some (Value.int z)) (show sX5_make M x1 x2 = sX5_lowestEmpty M by unfold sX5_make; rw [if_neg c1, if_neg c2, if_neg c3, if_pos c4, if_pos c5]).symm, (show tX5_make M x1 x2 = (beaM M (54 + 3 * ((sX5_lowestEmpty M).toNatClampNeg)) x1 (Int64.toInt32 x2).toNatClampNeg) by unfold tX5_make; rw [if_neg c1, if_neg c2, if_neg c3, if_pos c4, if_pos c5]).symm⟩
          · refine aw_aload_n dX5_make_40 1 rfl ?_
            refine aw_getR (b := 1) dX5_make_41 fl_X5_11 rfl (hT.s 0 (by decide)) (hT.n 0 (by decide)) (hT.r 0 0 (by decide) (by decide)) ?_
            refine aw_iload dX5_make_44 0 rfl ?_
            refine aw_aald (b := 54 + 3 * ((sX5_lowestEmpty M).toNatClampNeg)) dX5_make_46 (hT.s 1 (by decide)) (hT.n 1 (by decide)) (low_vp c4) (hT.slot (vp_lt (low_vp c4))) ?_
            refine aw_iload_n dX5_make_47 2 rfl ?_
            refine aw_lload_n dX5_make_48 3 rfl ?_
            refine aw_callVv [.int x1, .long x2] [] (sp_X2_beThing (d := d - 1) (by omega) x1 x2 (hT.row (t := ((sX5_lowestEmpty M).toNatClampNeg)) (vp_lt (low_vp c4)))) dX5_make_49 ml_X5_86 im_X2_beThing (hT.row (t := ((sX5_lowestEmpty M).toNatClampNeg)) (vp_lt (low_vp c4))).1 (hT.row (t := ((sX5_lowestEmpty M).toNatClampNeg)) (vp_lt (low_vp c4))).n0 rfl rfl (dl1 (d := d) (by omega)) rfl rfl (Nat.le_of_ble_eq_true rfl) rfl rfl (Nat.zero_le _) (Nat.zero_le _) ?_
            refine aw_goto 68 dX5_make_52 (by decide) ?_
            refine aw_iload dX5_make_68 0 rfl ?_
            refine aw_iret dX5_make_70 rfl (Nat.zero_le _) (Nat.zero_le _) ?_
            exact ⟨congrArg (fun z => some (Value.int z)) (show sX5_make M x1 x2 = sX5_lowestEmpty M by unfold sX5_make; rw [if_neg c1, if_neg c2, if_neg c3, if_pos c4, if_neg c5]).symm, (show tX5_make M x1 x2 = (tX2_beThing M (54 + 3 * ((sX5_lowestEmpty M).toNatClampNeg)) x1 x2) by unfold tX5_make; rw [if_neg c1, if_neg c2, if_neg c3, if_pos c4, if_neg c5]).symm⟩
        · refine aw_bipush (v := -3) dX5_make_31 (by decide) ?_
          refine aw_iret dX5_make_33 rfl (Nat.zero_le _) (Nat.zero_le _) ?_
          exact ⟨congrArg (fun z => some (Value.int z)) (show sX5_make M x1 x2 = -3 by unfold sX5_make; rw [if_neg c1, if_neg c2, if_neg c3, if_neg c4]).symm, (show tX5_make M x1 x2 = M by unfold tX5_make; rw [if_neg c1, if_neg c2, if_neg c3, if_neg c4]).symm⟩
      · refine aw_iconst (v := -1) dX5_make_18 (by decide) ?_
        refine aw_iret dX5_make_19 rfl (Nat.zero_le _) (Nat.zero_le _) ?_
        exact ⟨congrArg (fun z => some (Value.int z)) (show sX5_make M x1 x2 = -1 by unfold sX5_make; rw [if_neg c1, if_neg c2, if_pos c3]).symm, (show tX5_make M x1 x2 = M by unfold tX5_make; rw [if_neg c1, if_neg c2, if_pos c3]).symm⟩
def sX5_copyOf (M : xM) (x1 : Int32) : Int32 := (if (sX5_arrayError M x1) = 0 then (if 0 ≤ (sX5_lowestEmpty M) then sX5_lowestEmpty M else -3) else sX5_arrayError M x1)
def tX5_copyOf (M : xM) (x1 : Int32) : xM := (if (sX5_arrayError M x1) = 0 then (if 0 ≤ (sX5_lowestEmpty M) then (tX2_beLike M (54 + 3 * ((sX5_lowestEmpty M).toNatClampNeg)) (54 + 3 * x1.toNatClampNeg)) else M) else M)
theorem sT_X5_copyOf (M : xM) (x1 : Int32) : sT M (tX5_copyOf M x1) := (sT.ite (sT.ite ((sT.rf M).tr (sT_X2_beLike M (54 + 3 * ((sX5_lowestEmpty M).toNatClampNeg)) (54 + 3 * x1.toNatClampNeg))) (sT.rf M)) (sT.rf M))
theorem sp_X5_copyOf {d : Nat} (hd : 3 ≤ d) {M : xM} (x1 : Int32) (hT : TC M)  : Sp (fX5_copyOf d) [.ref 0, .int x1] M (dt (some (.int (sX5_copyOf M x1))) (tX5_copyOf M x1)) := by
  refine Sp.of pn_X5 (Nat.le_of_ble_eq_true rfl) (fun h => Bool.noConfusion h) ?_
  refine aw_aload_n dX5_copyOf_0 0 rfl ?_
  refine aw_iload_n dX5_copyOf_1 1 rfl ?_
  refine aw_callVi [.int x1] [] (sp_X5_arrayError (d := d - 1) (by omega) x1 hT) dX5_copyOf_2 ml_X5_101 im_X5_arrayError (hT.s 0 (by decide)) (hT.n 0 (by decide)) rfl rfl (dl1 (d := d) (by omega)) rfl rfl (Nat.le_of_ble_eq_true rfl) rfl rfl (Nat.zero_le _) (Nat.zero_le _) ?_
  refine aw_istore_n [(2, .int (sX5_arrayError M x1)), (0, .ref 0), (1, .int x1)] dX5_copyOf_5 (Nat.le_of_ble_eq_true rfl) rfl ?_
  refine aw_iload_n dX5_copyOf_6 0 rfl ?_
  refine aw_if_eq 12 dX5_copyOf_7 (by decide) (fun c1 => ?_) (fun c1 => ?_)
  · refine aw_aload_n dX5_copyOf_12 1 rfl ?_
    refine aw_callVi [] [] (sp_X5_lowestEmpty (d := d - 1) (by omega)  hT) dX5_copyOf_13 ml_X5_82 im_X5_lowestEmpty (hT.s 0 (by decide)) (hT.n 0 (by decide)) rfl rfl (dl1 (d := d) (by omega)) rfl rfl (Nat.le_of_ble_eq_true rfl) rfl rfl (Nat.zero_le _) (Nat.zero_le _) ?_
    refine aw_istore_n [(3, .int (sX5_lowestEmpty M)), (2, .int (sX5_arrayError M x1)), (0, .ref 0), (1, .int x1)] dX5_copyOf_16 (Nat.le_of_ble_eq_true rfl) rfl ?_
    refine aw_iload_n dX5_copyOf_17 0 rfl ?_
    refine aw_if_ge 24 dX5_copyOf_18 (by decide) (fun c2 => ?_) (fun c2 => ?_)
    · refine aw_aload_n dX5_copyOf_24 2 rfl ?_
      refine aw_getR (b := 1) dX5_copyOf_25 fl_X5_11 rfl (hT.s 0 (by decide)) (hT.n 0 (by decide)) (hT.r 0 0 (by decide) (by decide)) ?_
      refine aw_iload_n dX5_copyOf_28 0 rfl ?_
      refine aw_aald (b := 54 + 3 * ((sX5_lowestEmpty M).toNatClampNeg)) dX5_copyOf_29 (hT.s 1 (by decide)) (hT.n 1 (by decide)) (low_vp c2) (hT.slot (vp_lt (low_vp c2))) ?_
      refine aw_aload_n dX5_copyOf_30 2 rfl ?_
      refine aw_getR (b := 1) dX5_copyOf_31 fl_X5_11 rfl (hT.s 0 (by decide)) (hT.n 0 (by decide)) (hT.r 0 0 (by decide) (by decide)) ?_
      refine aw_iload_n dX5_copyOf_34 3 rfl ?_
      refine aw_aald (b := 54 + 3 * x1.toNatClampNeg) dX5_copyOf_35 (hT.s 1 (by decide)) (hT.n 1 (by decide)) (arrayE_vp c1) (hT.slot (vp_lt (arrayE_vp c1))) ?_
      refine aw_callVv [.ref (54 + 3 * x1.toNatClampNeg)] [] (sp_X2_beLike (d := d - 1) (by omega) (54 + 3 * x1.toNatClampNeg) (hT.row (t := ((sX5_lowestEmpty M).toNatClampNeg)) (vp_lt (low_vp c2))) (hT.row (t := x1.toNatClampNeg) (vp_lt (arrayE_vp c1)))) dX5_copyOf_36 ml_X5_127 im_X2_beLike (hT.row (t := ((sX5_lowestEmpty M).toNatClampNeg)) (vp_lt (low_vp c2))).1 (hT.row (t := ((sX5_lowestEmpty M).toNatClampNeg)) (vp_lt (low_vp c2))).n0 rfl rfl (dl1 (d := d) (by omega)) rfl rfl (Nat.le_of_ble_eq_true rfl) rfl rfl (Nat.zero_le _) (Nat.zero_le _) ?_
      refine aw_iload_n dX5_copyOf_39 0 rfl ?_
      refine aw_iret dX5_copyOf_40 rfl (Nat.zero_le _) (Nat.zero_le _) ?_
      exact ⟨congrArg (fun z => some (Value.int z)) (show sX5_copyOf M x1 = sX5_lowestEmpty M by unfold sX5_copyOf; rw [if_pos c1, if_pos c2]).symm, (show tX5_copyOf M x1 = (tX2_beLike M (54 + 3 * ((sX5_lowestEmpty M).toNatClampNeg)) (54 + 3 * x1.toNatClampNeg)) by unfold tX5_copyOf; rw [if_pos c1, if_pos c2]).symm⟩
    · refine aw_bipush (v := -3) dX5_copyOf_21 (by decide) ?_
      refine aw_iret dX5_copyOf_23 rfl (Nat.zero_le _) (Nat.zero_le _) ?_
      exact ⟨congrArg (fun z => some (Value.int z)) (show sX5_copyOf M x1 = -3 by unfold sX5_copyOf; rw [if_pos c1, if_neg c2]).symm, (show tX5_copyOf M x1 = M by unfold tX5_copyOf; rw [if_pos c1, if_neg c2]).symm⟩
  · refine aw_iload_n dX5_copyOf_10 0 rfl ?_
    refine aw_iret dX5_copyOf_11 rfl (Nat.zero_le _) (Nat.zero_le _) ?_
    exact ⟨congrArg (fun z => some (Value.int z)) (show sX5_copyOf M x1 = sX5_arrayError M x1 by unfold sX5_copyOf; rw [if_neg c1]).symm, (show tX5_copyOf M x1 = M by unfold tX5_copyOf; rw [if_neg c1]).symm⟩
