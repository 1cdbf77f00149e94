-- THE CLASS: faces without loops
def LnC (M : xM) : Prop := ∀ t, t < 12 → ∃ z, z ≤ 12 ∧ mI M (54 + 3 * t) 1 = nI z
def KnC (M : xM) : Prop := ∀ t, t < 12 → mI M (54 + 3 * t) 0 = -1 ∨ ∃ k, k < 16 ∧ mI M (54 + 3 * t) 0 = nI k
def StrL (M : xM) (a n : Nat) : Prop := ∃ l, l ≤ n ∧ n < 100000 ∧ mI M a 1 = nI l
theorem strl_vp {M : xM} {a n : Nat} {x : Int32} (h : StrL M a n) (h1 : ¬ x < 0) (h2 : ¬ mI M a 1 ≤ x) : vp_in x n := by
  obtain ⟨l, hl, hn, e⟩ := h
  have a1 : ¬ x.toInt < (0 : Int) := fun z => h1 (Int32.lt_iff_toInt_lt.mpr z)
  have a2 : ¬ (mI M a 1).toInt ≤ x.toInt := fun z => h2 (Int32.le_iff_toInt_le.mpr z)
  rw [e, nI_toInt (by omega)] at a2
  rw [vp_in_iff]
  omega
theorem strh_vp {M : xM} {a n : Nat} {x : Int32} (h : StrL M a n) (h1 : ¬ bz (sX3_has M a x) = 0) : vp_in x n := by
  have h1 := bz_n0.mp h1
  unfold sX3_has at h1
  by_cases c1 : x < 0
  · rw [if_pos c1] at h1; cases h1
  · by_cases c2 : mI M a 1 ≤ x
    · rw [if_neg c1, if_pos c2] at h1; cases h1
    · exact strl_vp h c1 c2
theorem strm_vp {M : xM} {a n : Nat} (h : StrL M a n) (h1 : mI M a 1 < Int32.ofNat n) : vp_in (mI M a 1) n := by
  obtain ⟨l, hl, hn, e⟩ := h
  have a1 : (mI M a 1).toInt < (nI n).toInt := Int32.lt_iff_toInt_lt.mp h1
  rw [e, nI_toInt (by omega), nI_toInt (by omega)] at a1
  rw [e]
  exact vp_in_nI (by omega) (by omega)
def sX3_at (M : xM) (a : Nat) (x1 : Int32) : Int32 := (if x1 < 0 then -1 else (if (mI M a 1) ≤ x1 then -1 else mI M (a + 1) x1.toNatClampNeg))
theorem sp_X3_at {d : Nat} (hd : 0 ≤ d) {M : xM} {a : Nat} {n : Nat} (x1 : Int32) (hR : StripAt M a n) (hL : StrL M a n)  : Sp (fX3_at d) [.ref a, .int x1] M (dt (some (.int (sX3_at M a x1))) (M)) := by
  refine Sp.of pn_X3 (Nat.le_of_ble_eq_true rfl) (fun h => Bool.noConfusion h) ?_
  refine aw_iload_n dX3_at_0 1 rfl ?_
  refine aw_if_lt 21 dX3_at_1 (by decide) (fun c1 => ?_) (fun c1 => ?_)
  · refine aw_iconst (v := -1) dX3_at_21 (by decide) ?_
    refine aw_iret dX3_at_22 rfl (Nat.zero_le _) (Nat.zero_le _) ?_
    exact ⟨congrArg (fun z => some (Value.int z)) (show sX3_at M a x1 = -1 by unfold sX3_at; rw [if_pos c1]).symm, rfl⟩
  · refine aw_iload_n dX3_at_4 1 rfl ?_
    refine aw_aload_n dX3_at_5 0 rfl ?_
    refine aw_getI dX3_at_6 fl_X3_9 hR.1 hR.n0 ?_
    refine aw_icmp_ge 21 dX3_at_9 (by decide) (fun c2 => ?_) (fun c2 => ?_)
    · refine aw_iconst (v := -1) dX3_at_21 (by decide) ?_
      refine aw_iret dX3_at_22 rfl (Nat.zero_le _) (Nat.zero_le _) ?_
      exact ⟨congrArg (fun z => some (Value.int z)) (show sX3_at M a x1 = -1 by unfold sX3_at; rw [if_neg c1, if_pos c2]).symm, rfl⟩
    · refine aw_aload_n dX3_at_12 0 rfl ?_
      refine aw_getR (b := a + 1) dX3_at_13 fl_X3_15 rfl hR.1 hR.n0 hR.2.2.1 ?_
      refine aw_iload_n dX3_at_16 1 rfl ?_
      refine aw_iald dX3_at_17 hR.2.1 hR.n1 (strl_vp hL c1 c2) ?_
      refine aw_goto 22 dX3_at_18 (by decide) ?_
      refine aw_iret dX3_at_22 rfl (Nat.zero_le _) (Nat.zero_le _) ?_
      exact ⟨congrArg (fun z => some (Value.int z)) (show sX3_at M a x1 = mI M (a + 1) x1.toNatClampNeg by unfold sX3_at; rw [if_neg c1, if_neg c2]).symm, rfl⟩
def tX3_replace (M : xM) (a : Nat) (x1 : Int32) (x2 : Int32) : xM := (if (bz (sX3_has M a x1)) = 0 then M else (stI M (a + 1) x1.toNatClampNeg x2))
theorem sT_X3_replace (M : xM) (a : Nat) (x1 : Int32) (x2 : Int32) : sT M (tX3_replace M a x1 x2) := (sT.ite (sT.rf M) ((sT.rf M).tr (sT.I _ _ _ _)))
theorem sp_X3_replace {d : Nat} (hd : 1 ≤ d) {M : xM} {a : Nat} {n : Nat} (x1 : Int32) (x2 : Int32) (hR : StripAt M a n) (hL : StrL M a n)  : Sp (fX3_replace d) [.ref a, .int x1, .int x2] M (dt (none) (tX3_replace M a x1 x2)) := by
  refine Sp.of pn_X3 (Nat.le_of_ble_eq_true rfl) (fun h => Bool.noConfusion h) ?_
  refine aw_aload_n dX3_replace_0 0 rfl ?_
  refine aw_iload_n dX3_replace_1 1 rfl ?_
  refine aw_callVi [.int x1] [] (sp_X3_has (d := d - 1) (by omega) x1 hR) dX3_replace_2 ml_X3_19 im_X3_has hR.1 hR.n0 rfl rfl (dl1 (d := d) (by omega)) rfl rfl (Nat.le_of_ble_eq_true rfl) rfl rfl (Nat.zero_le _) (Nat.zero_le _) ?_
  refine aw_if_eq 15 dX3_replace_5 (by decide) (fun c1 => ?_) (fun c1 => ?_)
  · refine aw_ret dX3_replace_15 rfl (Nat.zero_le _) (Nat.zero_le _) ?_
    exact ⟨rfl, (show tX3_replace M a x1 x2 = M by unfold tX3_replace; rw [if_pos c1]).symm⟩
  · refine aw_aload_n dX3_replace_8 0 rfl ?_
    refine aw_getR (b := a + 1) dX3_replace_9 fl_X3_15 rfl hR.1 hR.n0 hR.2.2.1 ?_
    refine aw_iload_n dX3_replace_12 1 rfl ?_
    refine aw_iload_n dX3_replace_13 2 rfl ?_
    refine aw_iast dX3_replace_14 hR.2.1 hR.n1 (strh_vp hL c1) ?_
    refine aw_ret dX3_replace_15 rfl (Nat.zero_le _) (Nat.zero_le _) ?_
    exact ⟨rfl, (show tX3_replace M a x1 x2 = (stI M (a + 1) x1.toNatClampNeg x2) by unfold tX3_replace; rw [if_neg c1]).symm⟩
def tX3_add (M : xM) (a n : Nat) (x1 : Int32) : xM := (if (mI M a 1) < (Int32.ofNat n) then (stI (stI M (a + 1) ((mI M a 1).toNatClampNeg) x1) a 1 ((mI (stI M (a + 1) ((mI M a 1).toNatClampNeg) x1) a 1) + 1)) else M)
theorem sT_X3_add (M : xM) (a n : Nat) (x1 : Int32) : sT M (tX3_add M a n x1) := (sT.ite (((sT.rf M).tr (sT.I _ _ _ _)).tr (sT.I _ _ _ _)) (sT.rf M))
theorem sp_X3_add {d : Nat} (hd : 0 ≤ d) {M : xM} {a : Nat} {n : Nat} (x1 : Int32) (hR : StripAt M a n) (hL : StrL M a n)  : Sp (fX3_add d) [.ref a, .int x1] M (dt (none) (tX3_add M a n x1)) := by
  refine Sp.of pn_X3 (Nat.le_of_ble_eq_true rfl) (fun h => Bool.noConfusion h) ?_
  refine aw_aload_n dX3_add_0 0 rfl ?_
  refine aw_getI dX3_add_1 fl_X3_9 hR.1 hR.n0 ?_
  refine aw_aload_n dX3_add_4 0 rfl ?_
  refine aw_getR (b := a + 1) dX3_add_5 fl_X3_15 rfl hR.1 hR.n0 hR.2.2.1 ?_
  refine aw_alen (n := n) dX3_add_8 hR.2.1 hR.n1 ?_
  refine aw_icmp_lt 13 dX3_add_9 (by decide) (fun c1 => ?_) (fun c1 => ?_)
  · refine aw_aload_n dX3_add_13 0 rfl ?_
    refine aw_getR (b := a + 1) dX3_add_14 fl_X3_15 rfl hR.1 hR.n0 hR.2.2.1 ?_
    refine aw_aload_n dX3_add_17 0 rfl ?_
    refine aw_getI dX3_add_18 fl_X3_9 hR.1 hR.n0 ?_
    refine aw_iload_n dX3_add_21 1 rfl ?_
    refine aw_iast dX3_add_22 hR.2.1 hR.n1 (strm_vp hL c1) ?_
    refine aw_aload_n dX3_add_23 0 rfl ?_
    refine aw_dup dX3_add_24 rfl ?_
    refine aw_getI dX3_add_25 fl_X3_9 hR.1 hR.n0 ?_
    refine aw_iconst (v := 1) dX3_add_28 (by decide) ?_
    refine aw_iadd dX3_add_29 ?_
    refine aw_putI dX3_add_30 fl_X3_9 (Or.inl rfl) hR.1 hR.n0 ?_
    refine aw_ret dX3_add_33 rfl (Nat.zero_le _) (Nat.zero_le _) ?_
    exact ⟨rfl, (show tX3_add M a n x1 = (stI (stI M (a + 1) ((mI M a 1).toNatClampNeg) x1) a 1 ((mI (stI M (a + 1) ((mI M a 1).toNatClampNeg) x1) a 1) + 1)) by unfold tX3_add; rw [if_pos c1]).symm⟩
  · refine aw_ret dX3_add_12 rfl (Nat.zero_le _) (Nat.zero_le _) ?_
    exact ⟨rfl, (show tX3_add M a n x1 = M by unfold tX3_add; rw [if_neg c1]).symm⟩
def sX5_tape (M : xM) (x1 : Int32) : Int32 := (if (bz (sX3_has M 2 x1)) = 0 then -1 else sX3_at M 2 x1)
theorem sp_X5_tape {d : Nat} (hd : 1 ≤ d) {M : xM} (x1 : Int32) (hT : TC M) (hL : StrL M 2 200) : Sp (fX5_tape d) [.ref 0, .int x1] M (dt (some (.int (sX5_tape M x1))) (M)) := by
  refine Sp.of pn_X5 (Nat.le_of_ble_eq_true rfl) (fun h => Bool.noConfusion h) ?_
  refine aw_aload_n dX5_tape_0 0 rfl ?_
  refine aw_getR (b := 2) dX5_tape_1 fl_X5_20 rfl (hT.s 0 (by decide)) (hT.n 0 (by decide)) (hT.r 0 1 (by decide) (by decide)) ?_
  refine aw_iload_n dX5_tape_4 1 rfl ?_
  refine aw_callVi [.int x1] [] (sp_X3_has (d := d - 1) (by omega) x1 hT.tape) dX5_tape_5 ml_X5_227 im_X3_has (hT.s 2 (by decide)) (hT.n 2 (by decide)) rfl rfl (dl1 (d := d) (by omega)) rfl rfl (Nat.le_of_ble_eq_true rfl) rfl rfl (Nat.zero_le _) (Nat.zero_le _) ?_
  refine aw_if_eq 22 dX5_tape_8 (by decide) (fun c1 => ?_) (fun c1 => ?_)
  · refine aw_iconst (v := -1) dX5_tape_22 (by decide) ?_
    refine aw_iret dX5_tape_23 rfl (Nat.zero_le _) (Nat.zero_le _) ?_
    exact ⟨congrArg (fun z => some (Value.int z)) (show sX5_tape M x1 = -1 by unfold sX5_tape; rw [if_pos c1]).symm, rfl⟩
  · refine aw_aload_n dX5_tape_11 0 rfl ?_
    refine aw_getR (b := 2) dX5_tape_12 fl_X5_20 rfl (hT.s 0 (by decide)) (hT.n 0 (by decide)) (hT.r 0 1 (by decide) (by decide)) ?_
    refine aw_iload_n dX5_tape_15 1 rfl ?_
    refine aw_callVi [.int x1] [] (sp_X3_at (d := d - 1) (by omega) x1 hT.tape hL) dX5_tape_16 ml_X5_229 im_X3_at (hT.s 2 (by decide)) (hT.n 2 (by decide)) rfl rfl (dl1 (d := d) (by omega)) rfl rfl (Nat.le_of_ble_eq_true rfl) rfl rfl (Nat.zero_le _) (Nat.zero_le _) ?_
    refine aw_goto 23 dX5_tape_19 (by decide) ?_
    refine aw_iret dX5_tape_23 rfl (Nat.zero_le _) (Nat.zero_le _) ?_
    exact ⟨congrArg (fun z => some (Value.int z)) (show sX5_tape M x1 = sX3_at M 2 x1 by unfold sX5_tape; rw [if_neg c1]).symm, rfl⟩
def sX5_seek (M : xM) (x1 : Int32) : Int32 := (if x1 < 0 then -1 else (if x1 ≤ (mI M 2 1) then mI M 0 10 else -1))
def tX5_seek (M : xM) (x1 : Int32) : xM := (if x1 < 0 then M else (if x1 ≤ (mI M 2 1) then (stI M 0 10 x1) else M))
theorem sT_X5_seek (M : xM) (x1 : Int32) : sT M (tX5_seek M x1) := (sT.ite (sT.rf M) (sT.ite ((sT.rf M).tr (sT.I _ _ _ _)) (sT.rf M)))
theorem sp_X5_seek {d : Nat} (hd : 0 ≤ d) {M : xM} (x1 : Int32) (hT : TC M)  : Sp (fX5_seek d) [.ref 0, .int x1] M (dt (some (.int (sX5_seek M x1))) (tX5_seek M x1)) := by
  refine Sp.of pn_X5 (Nat.le_of_ble_eq_true rfl) (fun h => Bool.noConfusion h) ?_
  refine aw_iload_n dX5_seek_0 1 rfl ?_
  refine aw_if_lt 15 dX5_seek_1 (by decide) (fun c1 => ?_) (fun c1 => ?_)
  · refine aw_iconst (v := -1) dX5_seek_15 (by decide) ?_
    refine aw_iret dX5_seek_16 rfl (Nat.zero_le _) (Nat.zero_le _) ?_
    exact ⟨congrArg (fun z => some (Value.int z)) (show sX5_seek M x1 = -1 by unfold sX5_seek; rw [if_pos c1]).symm, (show tX5_seek M x1 = M by unfold tX5_seek; rw [if_pos c1]).symm⟩
  · refine aw_iload_n dX5_seek_4 1 rfl ?_
    refine aw_aload_n dX5_seek_5 0 rfl ?_
    refine aw_getR (b := 2) dX5_seek_6 fl_X5_20 rfl (hT.s 0 (by decide)) (hT.n 0 (by decide)) (hT.r 0 1 (by decide) (by decide)) ?_
    refine aw_getI dX5_seek_9 fl_X5_226 (hT.s 2 (by decide)) (hT.n 2 (by decide)) ?_
    refine aw_icmp_le 17 dX5_seek_12 (by decide) (fun c2 => ?_) (fun c2 => ?_)
    · refine aw_aload_n dX5_seek_17 0 rfl ?_
      refine aw_getI dX5_seek_18 fl_X5_64 (hT.s 0 (by decide)) (hT.n 0 (by decide)) ?_
      refine aw_istore_n [(2, .int (mI M 0 10)), (0, .ref 0), (1, .int x1)] dX5_seek_21 (Nat.le_of_ble_eq_true rfl) rfl ?_
      refine aw_aload_n dX5_seek_22 1 rfl ?_
      refine aw_iload_n dX5_seek_23 2 rfl ?_
      refine aw_putI dX5_seek_24 fl_X5_64 (Or.inl rfl) (hT.s 0 (by decide)) (hT.n 0 (by decide)) ?_
      refine aw_iload_n dX5_seek_27 0 rfl ?_
      refine aw_iret dX5_seek_28 rfl (Nat.zero_le _) (Nat.zero_le _) ?_
      exact ⟨congrArg (fun z => some (Value.int z)) (show sX5_seek M x1 = mI M 0 10 by unfold sX5_seek; rw [if_neg c1, if_pos c2]).symm, (show tX5_seek M x1 = (stI M 0 10 x1) by unfold tX5_seek; rw [if_neg c1, if_pos c2]).symm⟩
    · refine aw_iconst (v := -1) dX5_seek_15 (by decide) ?_
      refine aw_iret dX5_seek_16 rfl (Nat.zero_le _) (Nat.zero_le _) ?_
      exact ⟨congrArg (fun z => some (Value.int z)) (show sX5_seek M x1 = -1 by unfold sX5_seek; rw [if_neg c1, if_neg c2]).symm, (show tX5_seek M x1 = M by unfold tX5_seek; rw [if_neg c1, if_neg c2]).symm⟩
def sX5_cut (M : xM) (x1 : Int32) : Int32 := (if x1 < 0 then -1 else (if x1 ≤ (mI M 2 1) then (mI M 2 1) - x1 else -1))
def tX5_cut (M : xM) (x1 : Int32) : xM := (if x1 < 0 then M else (if x1 ≤ (mI M 2 1) then (stI (stI M 2 1 x1) 0 10 (if x1 < mI (stI M 2 1 x1) 0 10 then x1 else mI (stI M 2 1 x1) 0 10)) else M))
theorem sT_X5_cut (M : xM) (x1 : Int32) : sT M (tX5_cut M x1) := (sT.ite (sT.rf M) (sT.ite (((sT.rf M).tr (sT.I _ _ _ _)).tr (sT.I _ _ _ _)) (sT.rf M)))
theorem sp_X5_cut {d : Nat} (hd : 1 ≤ d) {M : xM} (x1 : Int32) (hT : TC M)  : Sp (fX5_cut d) [.ref 0, .int x1] M (dt (some (.int (sX5_cut M x1))) (tX5_cut M x1)) := by
  refine Sp.of pn_X5 (Nat.le_of_ble_eq_true rfl) (fun h => Bool.noConfusion h) ?_
  refine aw_iload_n dX5_cut_0 1 rfl ?_
  refine aw_if_lt 15 dX5_cut_1 (by decide) (fun c1 => ?_) (fun c1 => ?_)
  · refine aw_iconst (v := -1) dX5_cut_15 (by decide) ?_
    refine aw_iret dX5_cut_16 rfl (Nat.zero_le _) (Nat.zero_le _) ?_
    exact ⟨congrArg (fun z => some (Value.int z)) (show sX5_cut M x1 = -1 by unfold sX5_cut; rw [if_pos c1]).symm, (show tX5_cut M x1 = M by unfold tX5_cut; rw [if_pos c1]).symm⟩
  · refine aw_iload_n dX5_cut_4 1 rfl ?_
    refine aw_aload_n dX5_cut_5 0 rfl ?_
    refine aw_getR (b := 2) dX5_cut_6 fl_X5_20 rfl (hT.s 0 (by decide)) (hT.n 0 (by decide)) (hT.r 0 1 (by decide) (by decide)) ?_
    refine aw_getI dX5_cut_9 fl_X5_226 (hT.s 2 (by decide)) (hT.n 2 (by decide)) ?_
    refine aw_icmp_le 17 dX5_cut_12 (by decide) (fun c2 => ?_) (fun c2 => ?_)
    · refine aw_aload_n dX5_cut_17 0 rfl ?_
      refine aw_getR (b := 2) dX5_cut_18 fl_X5_20 rfl (hT.s 0 (by decide)) (hT.n 0 (by decide)) (hT.r 0 1 (by decide) (by decide)) ?_
      refine aw_getI dX5_cut_21 fl_X5_226 (hT.s 2 (by decide)) (hT.n 2 (by decide)) ?_
      refine aw_iload_n dX5_cut_24 1 rfl ?_
      refine aw_isub dX5_cut_25 ?_
      refine aw_istore_n [(2, .int ((mI M 2 1) - x1)), (0, .ref 0), (1, .int x1)] dX5_cut_26 (Nat.le_of_ble_eq_true rfl) rfl ?_
      refine aw_aload_n dX5_cut_27 1 rfl ?_
      refine aw_getR (b := 2) dX5_cut_28 fl_X5_20 rfl (hT.s 0 (by decide)) (hT.n 0 (by decide)) (hT.r 0 1 (by decide) (by decide)) ?_
      refine aw_iload_n dX5_cut_31 2 rfl ?_
      refine aw_putI dX5_cut_32 fl_X5_226 (Or.inl rfl) (hT.s 2 (by decide)) (hT.n 2 (by decide)) ?_
      refine aw_aload_n dX5_cut_35 1 rfl ?_
      refine aw_aload_n dX5_cut_36 1 rfl ?_
      refine aw_getI dX5_cut_37 fl_X5_64 (hT.s 0 (by decide)) (hT.n 0 (by decide)) ?_
      refine aw_iload_n dX5_cut_40 2 rfl ?_
      refine aw_mmin dX5_cut_41 mm_X5_193 mm_mins in_J9 mm_minc (show 1 ≤ d by omega) (Nat.le_of_ble_eq_true rfl) (Nat.zero_le _) (Nat.zero_le _) ?_
      refine aw_putI dX5_cut_44 fl_X5_64 (Or.inl rfl) (hT.s 0 (by decide)) (hT.n 0 (by decide)) ?_
      refine aw_iload_n dX5_cut_47 0 rfl ?_
      refine aw_iret dX5_cut_48 rfl (Nat.zero_le _) (Nat.zero_le _) ?_
      exact ⟨congrArg (fun z => some (Value.int z)) (show sX5_cut M x1 = (mI M 2 1) - x1 by unfold sX5_cut; rw [if_neg c1, if_pos c2]).symm, (show tX5_cut M x1 = (stI (stI M 2 1 x1) 0 10 (if x1 < mI (stI M 2 1 x1) 0 10 then x1 else mI (stI M 2 1 x1) 0 10)) by unfold tX5_cut; rw [if_neg c1, if_pos c2]).symm⟩
    · refine aw_iconst (v := -1) dX5_cut_15 (by decide) ?_
      refine aw_iret dX5_cut_16 rfl (Nat.zero_le _) (Nat.zero_le _) ?_
      exact ⟨congrArg (fun z => some (Value.int z)) (show sX5_cut M x1 = -1 by unfold sX5_cut; rw [if_neg c1, if_neg c2]).symm, (show tX5_cut M x1 = M by unfold tX5_cut; rw [if_neg c1, if_neg c2]).symm⟩
def sX5_poke (M : xM) (x1 : Int32) (x2 : Int32) : Int32 := (if x1 < 0 then -1 else (if (mI M 2 1) < x1 then -1 else (if x2 < 0 then -1 else (if x2 ≤ 255 then (if x1 < 200 then (if x1 = (mI M 2 1) then -4 else sX3_at M 2 x1) else -3) else -1))))
def tX5_poke (M : xM) (x1 : Int32) (x2 : Int32) : xM := (if x1 < 0 then M else (if (mI M 2 1) < x1 then M else (if x2 < 0 then M else (if x2 ≤ 255 then (if x1 < 200 then (if x1 = (mI M 2 1) then (tX3_add M 2 200 x2) else (tX3_replace M 2 x1 x2)) else M) else M))))
theorem sT_X5_poke (M : xM) (x1 : Int32) (x2 : Int32) : sT M (tX5_poke M x1 x2) := (sT.ite (sT.rf M) (sT.ite (sT.rf M) (sT.ite (sT.rf M) (sT.ite (sT.ite (sT.ite ((sT.rf M).tr (sT_X3_add M 2 200 x2)) ((sT.rf M).tr (sT_X3_replace M 2 x1 x2))) (sT.rf M)) (sT.rf M)))))
theorem sp_X5_poke {d : Nat} (hd : 2 ≤ d) {M : xM} (x1 : Int32) (x2 : Int32) (hT : TC M) (hL : StrL M 2 200) : Sp (fX5_poke d) [.ref 0, .int x1, .int x2] M (dt (some (.int (sX5_poke M x1 x2))) (tX5_poke M x1 x2)) := by
  refine Sp.of pn_X5 (Nat.le_of_ble_eq_true rfl) (fun h => Bool.noConfusion h) ?_
  refine aw_iload_n dX5_poke_0 1 rfl ?_
  refine aw_if_lt 26 dX5_poke_1 (by decide) (fun c1 => ?_) (fun c1 => ?_)
  · refine aw_iconst (v := -1) dX5_poke_26 (by decide) ?_
    refine aw_iret dX5_poke_27 rfl (Nat.zero_le _) (Nat.zero_le _) ?_
    exact ⟨congrArg (fun z => some (Value.int z)) (show sX5_poke M x1 x2 = -1 by unfold sX5_poke; rw [if_pos c1]).symm, (show tX5_poke M x1 x2 = M by unfold tX5_poke; rw [if_pos c1]).symm⟩
  · refine aw_iload_n dX5_poke_4 1 rfl ?_
    refine aw_aload_n dX5_poke_5 0 rfl ?_
    refine aw_getR (b := 2) dX5_poke_6 fl_X5_20 rfl (hT.s 0 (by decide)) (hT.n 0 (by decide)) (hT.r 0 1 (by decide) (by decide)) ?_
    refine aw_getI dX5_poke_9 fl_X5_226 (hT.s 2 (by decide)) (hT.n 2 (by decide)) ?_
    refine aw_icmp_gt 26 dX5_poke_12 (by decide) (fun c2 => ?_) (fun c2 => ?_)
    · refine aw_iconst (v := -1) dX5_poke_26 (by decide) ?_
      refine aw_iret dX5_poke_27 rfl (Nat.zero_le _) (Nat.zero_le _) ?_
      exact ⟨congrArg (fun z => some (Value.int z)) (show sX5_poke M x1 x2 = -1 by unfold sX5_poke; rw [if_neg c1, if_pos c2]).symm, (show tX5_poke M x1 x2 = M by unfold tX5_poke; rw [if_neg c1, if_pos c2]).symm⟩
    · refine aw_iload_n dX5_poke_15 2 rfl ?_
      refine aw_if_lt 26 dX5_poke_16 (by decide) (fun c3 => ?_) (fun c3 => ?_)
      · refine aw_iconst (v := -1) dX5_poke_26 (by decide) ?_
        refine aw_iret dX5_poke_27 rfl (Nat.zero_le _) (Nat.zero_le _) ?_
        exact ⟨congrArg (fun z => some (Value.int z)) (show sX5_poke M x1 x2 = -1 by unfold sX5_poke; rw [if_neg c1, if_neg c2, if_pos c3]).symm, (show tX5_poke M x1 x2 = M by unfold tX5_poke; rw [if_neg c1, if_neg c2, if_pos c3]).symm⟩
      · refine aw_iload_n dX5_poke_19 2 rfl ?_
        refine aw_sipush (v := 255) dX5_poke_20 (by decide) ?_
        refine aw_icmp_le 28 dX5_poke_23 (by decide) (fun c4 => ?_) (fun c4 => ?_)
        · refine aw_iload_n dX5_poke_28 1 rfl ?_
          refine aw_sipush (v := 200) dX5_poke_29 (by decide) ?_
          refine aw_icmp_lt 38 dX5_poke_32 (by decide) (fun c5 => ?_) (fun c5 => ?_)
          · refine aw_iload_n dX5_poke_38 1 rfl ?_
            refine aw_aload_n dX5_poke_39 0 rfl ?_
            refine aw_getR (b := 2) dX5_poke_40 fl_X5_20 rfl (hT.s 0 (by decide)) (hT.n 0 (by decide)) (hT.r 0 1 (by decide) (by decide)) ?_
            refine aw_getI dX5_poke_43 fl_X5_226 (hT.s 2 (by decide)) (hT.n 2 (by decide)) ?_
            refine aw_icmp_ne 60 dX5_poke_46 (by decide) (fun c6 => ?_) (fun c6 => ?_)
            · refine aw_aload_n dX5_poke_60 0 rfl ?_
              refine aw_getR (b := 2) dX5_poke_61 fl_X5_20 rfl (hT.s 0 (by decide)) (hT.n 0 (by decide)) (hT.r 0 1 (by decide) (by decide)) ?_
              refine aw_iload_n dX5_poke_64 1 rfl ?_
              refine aw_callVi [.int x1] [] (sp_X3_at (d := d - 1) (by omega) x1 hT.tape hL) dX5_poke_65 ml_X5_229 im_X3_at (hT.s 2 (by decide)) (hT.n 2 (by decide)) rfl rfl (dl1 (d := d) (by omega)) rfl rfl (Nat.le_of_ble_eq_true rfl) rfl rfl (Nat.zero_le _) (Nat.zero_le _) ?_
              refine aw_istore_n [(3, .int (sX3_at M 2 x1)), (0, .ref 0), (1, .int x1), (2, .int x2)] dX5_poke_68 (Nat.le_of_ble_eq_true rfl) rfl ?_
              refine aw_aload_n dX5_poke_69 1 rfl ?_
              refine aw_getR (b := 2) dX5_poke_70 fl_X5_20 rfl (hT.s 0 (by decide)) (hT.n 0 (by decide)) (hT.r 0 1 (by decide) (by decide)) ?_
              refine aw_iload_n dX5_poke_73 2 rfl ?_
              refine aw_iload_n dX5_poke_74 3 rfl ?_
              refine aw_callVv [.int x1, .int x2] [] (sp_X3_replace (d := d - 1) (by omega) x1 x2 hT.tape hL) dX5_poke_75 ml_X5_235 im_X3_replace (hT.s 2 (by decide)) (hT.n 2 (by decide)) rfl rfl (dl1 (d := d) (by omega)) rfl rfl (Nat.le_of_ble_eq_true rfl) rfl rfl (Nat.zero_le _) (Nat.zero_le _) ?_
              refine aw_iload_n dX5_poke_78 0 rfl ?_
              refine aw_iret dX5_poke_79 rfl (Nat.zero_le _) (Nat.zero_le _) ?_
              exact ⟨congrArg (fun z => some (Value.int z)) (show sX5_poke M x1 x2 = sX3_at M 2 x1 by unfold sX5_poke; rw [if_neg c1, if_neg c2, if_neg c3, if_pos c4, if_pos c5, if_neg c6]).symm, (show tX5_poke M x1 x2 = (tX3_replace M 2 x1 x2) by unfold tX5_poke; rw [if_neg c1, if_neg c2, if_neg c3, if_pos c4, if_pos c5, if_neg c6]).symm⟩
            · refine aw_aload_n dX5_poke_49 0 rfl ?_
              refine aw_getR (b := 2) dX5_poke_50 fl_X5_20 rfl (hT.s 0 (by decide)) (hT.n 0 (by decide)) (hT.r 0 1 (by decide) (by decide)) ?_
              refine aw_iload_n dX5_poke_53 2 rfl ?_
              refine aw_callVv [.int x2] [] (sp_X3_add (d := d - 1) (by omega) x2 hT.tape hL) dX5_poke_54 ml_X5_232 im_X3_add (hT.s 2 (by decide)) (hT.n 2 (by decide)) rfl rfl (dl1 (d := d) (by omega)) rfl rfl (Nat.le_of_ble_eq_true rfl) rfl rfl (Nat.zero_le _) (Nat.zero_le _) ?_
              refine aw_bipush (v := -4) dX5_poke_57 (by decide) ?_
              refine aw_iret dX5_poke_59 rfl (Nat.zero_le _) (Nat.zero_le _) ?_
              exact ⟨congrArg (fun z => some (Value.int z)) (show sX5_poke M x1 x2 = -4 by unfold sX5_poke; rw [if_neg c1, if_neg c2, if_neg c3, if_pos c4, if_pos c5, if_pos c6]).symm, (show tX5_poke M x1 x2 = (tX3_add M 2 200 x2) by unfold tX5_poke; rw [if_neg c1, if_neg c2, if_neg c3, if_pos c4, if_pos c5, if_pos c6]).symm⟩
          · refine aw_bipush (v := -3) dX5_poke_35 (by decide) ?_
            refine aw_iret dX5_poke_37 rfl (Nat.zero_le _) (Nat.zero_le _) ?_
            exact ⟨congrArg (fun z => some (Value.int z)) (show sX5_poke M x1 x2 = -3 by unfold sX5_poke; rw [if_neg c1, if_neg c2, if_neg c3, if_pos c4, if_neg c5]).symm, (show tX5_poke M x1 x2 = M by unfold tX5_poke; rw [if_neg c1, if_neg c2, if_neg c3, if_pos c4, if_neg c5]).symm⟩
        · refine aw_iconst (v := -1) dX5_poke_26 (by decide) ?_
          refine aw_iret dX5_poke_27 rfl (Nat.zero_le _) (Nat.zero_le _) ?_
          exact ⟨congrArg (fun z => some (Value.int z)) (show sX5_poke M x1 x2 = -1 by unfold sX5_poke; rw [if_neg c1, if_neg c2, if_neg c3, if_neg c4]).symm, (show tX5_poke M x1 x2 = M by unfold tX5_poke; rw [if_neg c1, if_neg c2, if_neg c3, if_neg c4]).symm⟩
theorem count_vp {x : Int32} (h1 : ¬ x < 0) (h2 : x ≤ 8) (h3 : ¬ x = 0) (h4 : ¬ x = 1) (h5 : ¬ x = 2) (h6 : ¬ x = 3) : vp_in (x - 4) 5 := by
  have a1 : ¬ x.toInt < (0 : Int) := fun z => h1 (Int32.lt_iff_toInt_lt.mpr z)
  have a2 : x.toInt ≤ (8 : Int) := Int32.le_iff_toInt_le.mp h2
  have b0 : ¬ x.toInt = 0 := fun z => h3 (Int32.toInt_inj.mp (z.trans rfl))
  have b1 : ¬ x.toInt = 1 := fun z => h4 (Int32.toInt_inj.mp (z.trans rfl))
  have b2 : ¬ x.toInt = 2 := fun z => h5 (Int32.toInt_inj.mp (z.trans rfl))
  have b3 : ¬ x.toInt = 3 := fun z => h6 (Int32.toInt_inj.mp (z.trans rfl))
  have e : (4 : Int32).toInt = 4 := rfl
  rw [vp_in_iff, Int32.toInt_sub, e, Int.bmod_eq_of_le (by omega) (by omega)]
  omega
def sX5_count (M : xM) (x1 : Int32) : Int32 := (if x1 < 0 then -1 else (if x1 ≤ 8 then (if x1 = 0 then sX5_filledSlots M else (if x1 = 1 then mI M 2 1 else (if x1 = 2 then mI M 0 10 else (if x1 = 3 then mI M 0 11 else mI M 53 ((x1 - 4).toNatClampNeg))))) else -1))
theorem sp_X5_count {d : Nat} (hd : 2 ≤ d) {M : xM} (x1 : Int32) (hT : TC M)  : Sp (fX5_count d) [.ref 0, .int x1] M (dt (some (.int (sX5_count M x1))) (M)) := by
  refine Sp.of pn_X5 (Nat.le_of_ble_eq_true rfl) (fun h => Bool.noConfusion h) ?_
  refine aw_iload_n dX5_count_0 1 rfl ?_
  refine aw_if_lt 10 dX5_count_1 (by decide) (fun c1 => ?_) (fun c1 => ?_)
  · refine aw_iconst (v := -1) dX5_count_10 (by decide) ?_
    refine aw_iret dX5_count_11 rfl (Nat.zero_le _) (Nat.zero_le _) ?_
    exact ⟨congrArg (fun z => some (Value.int z)) (show sX5_count M x1 = -1 by unfold sX5_count; rw [if_pos c1]).symm, rfl⟩
  · refine aw_iload_n dX5_count_4 1 rfl ?_
    refine aw_bipush (v := 8) dX5_count_5 (by decide) ?_
    refine aw_icmp_le 12 dX5_count_7 (by decide) (fun c2 => ?_) (fun c2 => ?_)
    · refine aw_iload_n dX5_count_12 1 rfl ?_
      by_cases c3 : x1 = 0
      · refine aw_tableIn 44 dX5_count_13 (by rw [c3]; decide) (by rw [c3]; decide) (by rw [c3]; rfl) (by decide) ?_
        refine aw_aload_n dX5_count_44 0 rfl ?_
        refine aw_callVi [] [] (sp_X5_filledSlots (d := d - 1) (by omega)  hT) dX5_count_45 ml_X5_117 im_X5_filledSlots (hT.s 0 (by decide)) (hT.n 0 (by decide)) rfl rfl (dl1 (d := d) (by omega)) rfl rfl (Nat.le_of_ble_eq_true rfl) rfl rfl (Nat.zero_le _) (Nat.zero_le _) ?_
        refine aw_iret dX5_count_48 rfl (Nat.zero_le _) (Nat.zero_le _) ?_
        exact ⟨congrArg (fun z => some (Value.int z)) (show sX5_count M x1 = sX5_filledSlots M by unfold sX5_count; rw [if_neg c1, if_pos c2, if_pos c3]).symm, rfl⟩
      by_cases c4 : x1 = 1
      · refine aw_tableIn 49 dX5_count_13 (by rw [c4]; decide) (by rw [c4]; decide) (by rw [c4]; rfl) (by decide) ?_
        refine aw_aload_n dX5_count_49 0 rfl ?_
        refine aw_getR (b := 2) dX5_count_50 fl_X5_20 rfl (hT.s 0 (by decide)) (hT.n 0 (by decide)) (hT.r 0 1 (by decide) (by decide)) ?_
        refine aw_getI dX5_count_53 fl_X5_226 (hT.s 2 (by decide)) (hT.n 2 (by decide)) ?_
        refine aw_iret dX5_count_56 rfl (Nat.zero_le _) (Nat.zero_le _) ?_
        exact ⟨congrArg (fun z => some (Value.int z)) (show sX5_count M x1 = mI M 2 1 by unfold sX5_count; rw [if_neg c1, if_pos c2, if_neg c3, if_pos c4]).symm, rfl⟩
      by_cases c5 : x1 = 2
      · refine aw_tableIn 57 dX5_count_13 (by rw [c5]; decide) (by rw [c5]; decide) (by rw [c5]; rfl) (by decide) ?_
        refine aw_aload_n dX5_count_57 0 rfl ?_
        refine aw_getI dX5_count_58 fl_X5_64 (hT.s 0 (by decide)) (hT.n 0 (by decide)) ?_
        refine aw_iret dX5_count_61 rfl (Nat.zero_le _) (Nat.zero_le _) ?_
        exact ⟨congrArg (fun z => some (Value.int z)) (show sX5_count M x1 = mI M 0 10 by unfold sX5_count; rw [if_neg c1, if_pos c2, if_neg c3, if_neg c4, if_pos c5]).symm, rfl⟩
      by_cases c6 : x1 = 3
      · refine aw_tableIn 62 dX5_count_13 (by rw [c6]; decide) (by rw [c6]; decide) (by rw [c6]; rfl) (by decide) ?_
        refine aw_aload_n dX5_count_62 0 rfl ?_
        refine aw_getI dX5_count_63 fl_X5_68 (hT.s 0 (by decide)) (hT.n 0 (by decide)) ?_
        refine aw_iret dX5_count_66 rfl (Nat.zero_le _) (Nat.zero_le _) ?_
        exact ⟨congrArg (fun z => some (Value.int z)) (show sX5_count M x1 = mI M 0 11 by unfold sX5_count; rw [if_neg c1, if_pos c2, if_neg c3, if_neg c4, if_neg c5, if_pos c6]).symm, rfl⟩
      refine aw_tableOut 67 dX5_count_13 (by have ec3 : ¬ (Int32.toInt x1) = 0 := fun z => c3 (Int32.toInt_inj.mp (z.trans rfl)); have ec4 : ¬ (Int32.toInt x1) = 1 := fun z => c4 (Int32.toInt_inj.mp (z.trans rfl)); have ec5 : ¬ (Int32.toInt x1) = 2 := fun z => c5 (Int32.toInt_inj.mp (z.trans rfl)); have ec6 : ¬ (Int32.toInt x1) = 3 := fun z => c6 (Int32.toInt_inj.mp (z.trans rfl)); omega) (by decide) ?_
      refine aw_aload_n dX5_count_67 0 rfl ?_
      refine aw_getR (b := 53) dX5_count_68 fl_X5_61 rfl (hT.s 0 (by decide)) (hT.n 0 (by decide)) (hT.r 0 9 (by decide) (by decide)) ?_
      refine aw_iload_n dX5_count_71 1 rfl ?_
      refine aw_iconst (v := 4) dX5_count_72 (by decide) ?_
      refine aw_isub dX5_count_73 ?_
      refine aw_iald dX5_count_74 (hT.s 53 (by decide)) (hT.n 53 (by decide)) (count_vp c1 c2 c3 c4 c5 c6) ?_
      refine aw_iret dX5_count_75 rfl (Nat.zero_le _) (Nat.zero_le _) ?_
      exact ⟨congrArg (fun z => some (Value.int z)) (show sX5_count M x1 = mI M 53 ((x1 - 4).toNatClampNeg) by unfold sX5_count; rw [if_neg c1, if_pos c2, if_neg c3, if_neg c4, if_neg c5, if_neg c6]).symm, rfl⟩
    · refine aw_iconst (v := -1) dX5_count_10 (by decide) ?_
      refine aw_iret dX5_count_11 rfl (Nat.zero_le _) (Nat.zero_le _) ?_
      exact ⟨congrArg (fun z => some (Value.int z)) (show sX5_count M x1 = -1 by unfold sX5_count; rw [if_neg c1, if_neg c2]).symm, rfl⟩
theorem kndC_vp {M : xM} {x : Int32} (hK : KnC M) (h : sX5_slotError M x = 0) : vp_in (mI M (54 + 3 * x.toNatClampNeg) 0) 16 := by
  have hx := slotE_vp h
  rcases hK _ (vp_lt hx) with e | ⟨k, hk, e⟩
  · unfold sX5_slotError sX2_isEmpty at h
    by_cases h1 : bz (sX5_isSlot x.toInt64) = 0
    · rw [if_pos h1] at h; cases h
    · rw [if_neg h1, e] at h
      simp [bz] at h
  · rw [e]
    exact vp_in_nI hk (by decide)
theorem placeE_pl {M : xM} {x y : Int32} (hZ : LnC M) (h : sX5_placeError M x y = 0) : vp_in y 12 := by
  have hx := placeE_vp h
  obtain ⟨z, hz, e⟩ := hZ _ (vp_lt hx)
  unfold sX5_placeError at h
  by_cases h1 : sX5_arrayError M x = 0
  · rw [if_pos h1] at h
    by_cases h2 : bz (sX2_hasPlace M (54 + 3 * x.toNatClampNeg) y) = 0
    · rw [if_pos h2] at h; cases h
    · have h2 := bz_n0.mp h2
      unfold sX2_hasPlace at h2
      by_cases c1 : y < 0
      · rw [if_pos c1] at h2; cases h2
      · by_cases c2 : mI M (54 + 3 * x.toNatClampNeg) 1 ≤ y
        · rw [if_neg c1, if_pos c2] at h2; cases h2
        · have a1 : ¬ y.toInt < (0 : Int) := fun z => c1 (Int32.lt_iff_toInt_lt.mpr z)
          have a2 : ¬ (mI M (54 + 3 * x.toNatClampNeg) 1).toInt ≤ y.toInt := fun z => c2 (Int32.le_iff_toInt_le.mpr z)
          rw [e, nI_toInt (by omega)] at a2
          rw [vp_in_iff]
          omega
  · rw [if_neg h1] at h; exact absurd h h1
theorem sp_X2_exchangeI {d : Nat} (hd : 1 ≤ d) {M : xM} {a : Nat} (x2 x3 : Int32) (hR : RowAt M a) (hp : vp_in x2 12) (hq : vp_in x3 12) : Sp (fX2_exchange d) [.ref a, .int x2, .int x3] M (dt none (excM M a x2.toNatClampNeg x3.toNatClampNeg)) := by
  obtain ⟨e1, b1⟩ := nI_cl hp
  obtain ⟨e2, b2⟩ := nI_cl hq
  have h := sp_X2_exchange hd x2.toNatClampNeg x3.toNatClampNeg hR b1 b2
  rw [← e1, ← e2] at h
  exact h
theorem sp_X2_beArrayI {d : Nat} (hd : 2 ≤ d) {M : xM} {a : Nat} (x1 x2 : Int32) (hR : RowAt M a) (hz : vp_in x2 13) : Sp (fX2_beArray d) [.ref a, .int x1, .int x2] M (dt none (beaM M a x1 x2.toNatClampNeg)) := by
  obtain ⟨e1, b1⟩ := nI_cl hz
  have h := sp_X2_beArray hd x1 x2.toNatClampNeg hR (by omega)
  rw [← e1] at h
  exact h
def sX5_called (M : xM) (x1 : Int32) : Int64 := (if (sX5_slotError M x1) = 0 then tNAMES.getD (mI M (54 + 3 * x1.toNatClampNeg) 0).toNatClampNeg 0 else 0)
theorem sp_X5_called {d : Nat} (hd : 2 ≤ d) {M : xM} (x1 : Int32) (hT : TC M) (hK : KnC M) : Sp (fX5_called d) [.ref 0, .int x1] M (dt (some (.long (sX5_called M x1))) (M)) := by
  refine Sp.of pn_X5 (Nat.le_of_ble_eq_true rfl) (fun h => Bool.noConfusion h) ?_
  refine aw_aload_n dX5_called_0 0 rfl ?_
  refine aw_iload_n dX5_called_1 1 rfl ?_
  refine aw_callVi [.int x1] [] (sp_X5_slotError (d := d - 1) (by omega) x1 hT) dX5_called_2 ml_X5_94 im_X5_slotError (hT.s 0 (by decide)) (hT.n 0 (by decide)) rfl rfl (dl1 (d := d) (by omega)) rfl rfl (Nat.le_of_ble_eq_true rfl) rfl rfl (Nat.zero_le _) (Nat.zero_le _) ?_
  refine aw_if_eq 12 dX5_called_5 (by decide) (fun c1 => ?_) (fun c1 => ?_)
  · refine aw_gets (j := 4) dX5_called_12 (by decide) fs_X5_270 ?_
    refine aw_aload_n dX5_called_15 0 rfl ?_
    refine aw_getR (b := 1) dX5_called_16 fl_X5_11 rfl (hT.s 0 (by decide)) (hT.n 0 (by decide)) (hT.r 0 0 (by decide) (by decide)) ?_
    refine aw_iload_n dX5_called_19 1 rfl ?_
    refine aw_aald (b := 54 + 3 * x1.toNatClampNeg) dX5_called_20 (hT.s 1 (by decide)) (hT.n 1 (by decide)) (slotE_vp c1) (hT.slot (vp_lt (slotE_vp c1))) ?_
    refine aw_getI dX5_called_21 fl_X5_98 (hT.row (t := x1.toNatClampNeg) (vp_lt (slotE_vp c1))).1 (hT.row (t := x1.toNatClampNeg) (vp_lt (slotE_vp c1))).n0 ?_
    refine aw_slald (v := tNAMES.getD (mI M (54 + 3 * x1.toNatClampNeg) 0).toNatClampNeg 0) (j := 4) dX5_called_24 (by decide) rfl (kndC_vp hK c1) rfl ?_
    refine aw_lret dX5_called_25 rfl (Nat.zero_le _) (Nat.zero_le _) ?_
    exact ⟨congrArg (fun z => some (Value.long z)) (show sX5_called M x1 = tNAMES.getD (mI M (54 + 3 * x1.toNatClampNeg) 0).toNatClampNeg 0 by unfold sX5_called; rw [if_pos c1]).symm, rfl⟩
  · refine aw_lconst (v := 0) dX5_called_8 (by decide) ?_
    refine aw_goto 25 dX5_called_9 (by decide) ?_
    refine aw_lret dX5_called_25 rfl (Nat.zero_le _) (Nat.zero_le _) ?_
    exact ⟨congrArg (fun z => some (Value.long z)) (show sX5_called M x1 = 0 by unfold sX5_called; rw [if_neg c1]).symm, rfl⟩
theorem excM_T (M : xM) (a p q : Nat) : sT M (excM M a p q) := ⟨rfl, rfl, rfl⟩
def sX5_swap (M : xM) (x1 : Int32) (x2 : Int32) (x3 : Int32) : Int32 := (if (sX5_placeError M x1 x2) = 0 then (if (sX5_placeError M x1 x3) = 0 then sX5_placeError M x1 x3 else sX5_placeError M x1 x3) else sX5_placeError M x1 x2)
def tX5_swap (M : xM) (x1 : Int32) (x2 : Int32) (x3 : Int32) : xM := (if (sX5_placeError M x1 x2) = 0 then (if (sX5_placeError M x1 x3) = 0 then (excM M (54 + 3 * x1.toNatClampNeg) x2.toNatClampNeg x3.toNatClampNeg) else M) else M)
theorem sT_X5_swap (M : xM) (x1 : Int32) (x2 : Int32) (x3 : Int32) : sT M (tX5_swap M x1 x2 x3) := (sT.ite (sT.ite ((sT.rf M).tr (excM_T M (54 + 3 * x1.toNatClampNeg) x2.toNatClampNeg x3.toNatClampNeg)) (sT.rf M)) (sT.rf M))
theorem sp_X5_swap {d : Nat} (hd : 4 ≤ d) {M : xM} (x1 : Int32) (x2 : Int32) (x3 : Int32) (hT : TC M) (hZ : LnC M) : Sp (fX5_swap d) [.ref 0, .int x1, .int x2, .int x3] M (dt (some (.int (sX5_swap M x1 x2 x3))) (tX5_swap M x1 x2 x3)) := by
  refine Sp.of pn_X5 (Nat.le_of_ble_eq_true rfl) (fun h => Bool.noConfusion h) ?_
  refine aw_aload_n dX5_swap_0 0 rfl ?_
  refine aw_iload_n dX5_swap_1 1 rfl ?_
  refine aw_iload_n dX5_swap_2 2 rfl ?_
  refine aw_callVi [.int x1, .int x2] [] (sp_X5_placeError (d := d - 1) (by omega) x1 x2 hT) dX5_swap_3 ml_X5_164 im_X5_placeError (hT.s 0 (by decide)) (hT.n 0 (by decide)) rfl rfl (dl1 (d := d) (by omega)) rfl rfl (Nat.le_of_ble_eq_true rfl) rfl rfl (Nat.zero_le _) (Nat.zero_le _) ?_
  refine aw_istore [(4, .int (sX5_placeError M x1 x2)), (0, .ref 0), (1, .int x1), (2, .int x2), (3, .int x3)] dX5_swap_6 (Nat.le_of_ble_eq_true rfl) rfl ?_
  refine aw_iload dX5_swap_8 0 rfl ?_
  refine aw_if_ne 21 dX5_swap_10 (by decide) (fun c1 => ?_) (fun c1 => ?_)
  · refine aw_iload dX5_swap_21 0 rfl ?_
    refine aw_if_ne 37 dX5_swap_23 (by decide) (fun c2 => ?_) (fun c2 => absurd c2 c1)
    refine aw_iload dX5_swap_37 0 rfl ?_
    refine aw_iret dX5_swap_39 rfl (Nat.zero_le _) (Nat.zero_le _) ?_
    exact ⟨congrArg (fun z => some (Value.int z)) (show sX5_swap M x1 x2 x3 = sX5_placeError M x1 x2 by unfold sX5_swap; rw [if_neg c1]).symm, (show tX5_swap M x1 x2 x3 = M by unfold tX5_swap; rw [if_neg c1]).symm⟩
  · refine aw_aload_n dX5_swap_13 1 rfl ?_
    refine aw_iload_n dX5_swap_14 2 rfl ?_
    refine aw_iload_n dX5_swap_15 4 rfl ?_
    refine aw_callVi [.int x1, .int x3] [] (sp_X5_placeError (d := d - 1) (by omega) x1 x3 hT) dX5_swap_16 ml_X5_164 im_X5_placeError (hT.s 0 (by decide)) (hT.n 0 (by decide)) rfl rfl (dl1 (d := d) (by omega)) rfl rfl (Nat.le_of_ble_eq_true rfl) rfl rfl (Nat.zero_le _) (Nat.zero_le _) ?_
    refine aw_istore [(4, .int (sX5_placeError M x1 x3)), (0, .ref 0), (1, .int x1), (2, .int x2), (3, .int x3)] dX5_swap_19 (Nat.le_of_ble_eq_true rfl) rfl ?_
    refine aw_iload dX5_swap_21 0 rfl ?_
    refine aw_if_ne 37 dX5_swap_23 (by decide) (fun c3 => ?_) (fun c3 => ?_)
    · refine aw_iload dX5_swap_37 0 rfl ?_
      refine aw_iret dX5_swap_39 rfl (Nat.zero_le _) (Nat.zero_le _) ?_
      exact ⟨congrArg (fun z => some (Value.int z)) (show sX5_swap M x1 x2 x3 = sX5_placeError M x1 x3 by unfold sX5_swap; rw [if_pos c1, if_neg c3]).symm, (show tX5_swap M x1 x2 x3 = M by unfold tX5_swap; rw [if_pos c1, if_neg c3]).symm⟩
    · refine aw_aload_n dX5_swap_26 1 rfl ?_
      refine aw_getR (b := 1) dX5_swap_27 fl_X5_11 rfl (hT.s 0 (by decide)) (hT.n 0 (by decide)) (hT.r 0 0 (by decide) (by decide)) ?_
      refine aw_iload_n dX5_swap_30 2 rfl ?_
      refine aw_aald (b := 54 + 3 * x1.toNatClampNeg) dX5_swap_31 (hT.s 1 (by decide)) (hT.n 1 (by decide)) (placeE_vp c3) (hT.slot (vp_lt (placeE_vp c3))) ?_
      refine aw_iload_n dX5_swap_32 3 rfl ?_
      refine aw_iload_n dX5_swap_33 4 rfl ?_
      refine aw_callVv [.int x2, .int x3] [] (sp_X2_exchangeI (d := d - 1) (by omega) x2 x3 (hT.row (t := x1.toNatClampNeg) (vp_lt (placeE_vp c3))) (placeE_pl hZ c1) (placeE_pl hZ c3)) dX5_swap_34 ml_X5_176 im_X2_exchange (hT.row (t := x1.toNatClampNeg) (vp_lt (placeE_vp c3))).1 (hT.row (t := x1.toNatClampNeg) (vp_lt (placeE_vp c3))).n0 rfl rfl (dl1 (d := d) (by omega)) rfl rfl (Nat.le_of_ble_eq_true rfl) rfl rfl (Nat.zero_le _) (Nat.zero_le _) ?_
      refine aw_iload dX5_swap_37 0 rfl ?_
      refine aw_iret dX5_swap_39 rfl (Nat.zero_le _) (Nat.zero_le _) ?_
      exact ⟨congrArg (fun z => some (Value.int z)) (show sX5_swap M x1 x2 x3 = sX5_placeError M x1 x3 by unfold sX5_swap; rw [if_pos c1, if_pos c3]).symm, (show tX5_swap M x1 x2 x3 = (excM M (54 + 3 * x1.toNatClampNeg) x2.toNatClampNeg x3.toNatClampNeg) by unfold tX5_swap; rw [if_pos c1, if_pos c3]).symm⟩
def sX5_look (M : xM) (x1 : Int32) (x2 : Int32) (x3 : Int32) : Int64 := (if x3 < 0 then 0 else (if x3 ≤ 1 then (if (sX5_placeError M x1 x2) = 0 then (if x3 = 0 then Int32.toInt64 (mI (tX5_report (tX5_tally M (sX5_placeError M x1 x2)) (sX5_placeError M x1 x2) (-1)) ((54 + 3 * x1.toNatClampNeg) + 1) x2.toNatClampNeg) else mL (tX5_report (tX5_tally M (sX5_placeError M x1 x2)) (sX5_placeError M x1 x2) (-1)) ((54 + 3 * x1.toNatClampNeg) + 2) x2.toNatClampNeg) else 0) else 0))
def tX5_look (M : xM) (x1 : Int32) (x2 : Int32) (x3 : Int32) : xM := (if x3 < 0 then (tX5_report (tX5_tally M (-1)) (-1) (-1)) else (if x3 ≤ 1 then (if (sX5_placeError M x1 x2) = 0 then (if x3 = 0 then (tX5_report (tX5_tally M (sX5_placeError M x1 x2)) (sX5_placeError M x1 x2) (-1)) else (tX5_report (tX5_tally M (sX5_placeError M x1 x2)) (sX5_placeError M x1 x2) (-1))) else (tX5_report (tX5_tally M (sX5_placeError M x1 x2)) (sX5_placeError M x1 x2) (-1))) else (tX5_report (tX5_tally M (-1)) (-1) (-1))))
theorem sT_X5_look (M : xM) (x1 : Int32) (x2 : Int32) (x3 : Int32) : sT M (tX5_look M x1 x2 x3) := (sT.ite (((sT.rf M).tr (sT_X5_tally M (-1))).tr (sT_X5_report (tX5_tally M (-1)) (-1) (-1))) (sT.ite (sT.ite (sT.ite (((sT.rf M).tr (sT_X5_tally M (sX5_placeError M x1 x2))).tr (sT_X5_report (tX5_tally M (sX5_placeError M x1 x2)) (sX5_placeError M x1 x2) (-1))) (((sT.rf M).tr (sT_X5_tally M (sX5_placeError M x1 x2))).tr (sT_X5_report (tX5_tally M (sX5_placeError M x1 x2)) (sX5_placeError M x1 x2) (-1)))) (((sT.rf M).tr (sT_X5_tally M (sX5_placeError M x1 x2))).tr (sT_X5_report (tX5_tally M (sX5_placeError M x1 x2)) (sX5_placeError M x1 x2) (-1)))) (((sT.rf M).tr (sT_X5_tally M (-1))).tr (sT_X5_report (tX5_tally M (-1)) (-1) (-1)))))
theorem sp_X5_look {d : Nat} (hd : 4 ≤ d) {M : xM} (x1 : Int32) (x2 : Int32) (x3 : Int32) (hT : TC M) (hZ : LnC M) : Sp (fX5_look d) [.ref 0, .int x1, .int x2, .int x3] M (dt (some (.long (sX5_look M x1 x2 x3))) (tX5_look M x1 x2 x3)) := by
  refine Sp.of pn_X5 (Nat.le_of_ble_eq_true rfl) (fun h => Bool.noConfusion h) ?_
  refine aw_iload_n dX5_look_0 3 rfl ?_
  refine aw_if_lt 9 dX5_look_1 (by decide) (fun c1 => ?_) (fun c1 => ?_)
  · refine aw_iconst (v := -1) dX5_look_9 (by decide) ?_
    refine aw_goto 19 dX5_look_10 (by decide) ?_
    refine aw_istore [(4, .int (-1)), (0, .ref 0), (1, .int x1), (2, .int x2), (3, .int x3)] dX5_look_19 (Nat.le_of_ble_eq_true rfl) rfl ?_
    refine aw_aload_n dX5_look_21 1 rfl ?_
    refine aw_iload dX5_look_22 0 rfl ?_
    refine aw_callVv [.int (-1)] [] (sp_X5_tally (d := d - 1) (by omega) (-1) hT) dX5_look_24 ml_X5_135 im_X5_tally (hT.s 0 (by decide)) (hT.n 0 (by decide)) rfl rfl (dl1 (d := d) (by omega)) rfl rfl (Nat.le_of_ble_eq_true rfl) rfl rfl (Nat.zero_le _) (Nat.zero_le _) ?_
    refine aw_aload_n dX5_look_27 1 rfl ?_
    refine aw_iload dX5_look_28 0 rfl ?_
    refine aw_iconst (v := -1) dX5_look_30 (by decide) ?_
    refine aw_callVi [.int (-1), .int (-1)] [] (sp_X5_report (d := d - 1) (by omega) (-1) (-1) ((sT_X5_tally M (-1)).TC hT)) dX5_look_31 ml_X5_138 im_X5_report (((sT_X5_tally M (-1)).TC hT).s 0 (by decide)) (((sT_X5_tally M (-1)).TC hT).n 0 (by decide)) rfl rfl (dl1 (d := d) (by omega)) rfl rfl (Nat.le_of_ble_eq_true rfl) rfl rfl (Nat.zero_le _) (Nat.zero_le _) ?_
    refine aw_pop dX5_look_34 rfl ?_
    refine aw_iload dX5_look_35 0 rfl ?_
    refine aw_if_eq 42 dX5_look_37 (by decide) (fun c2 => absurd c2 (by decide)) (fun c2 => ?_)
    refine aw_lconst (v := 0) dX5_look_40 (by decide) ?_
    refine aw_lret dX5_look_41 rfl (Nat.zero_le _) (Nat.zero_le _) ?_
    exact ⟨congrArg (fun z => some (Value.long z)) (show sX5_look M x1 x2 x3 = 0 by unfold sX5_look; rw [if_pos c1]).symm, (show tX5_look M x1 x2 x3 = (tX5_report (tX5_tally M (-1)) (-1) (-1)) by unfold tX5_look; rw [if_pos c1]).symm⟩
  · refine aw_iload_n dX5_look_4 3 rfl ?_
    refine aw_iconst (v := 1) dX5_look_5 (by decide) ?_
    refine aw_icmp_le 13 dX5_look_6 (by decide) (fun c3 => ?_) (fun c3 => ?_)
    · refine aw_aload_n dX5_look_13 0 rfl ?_
      refine aw_iload_n dX5_look_14 1 rfl ?_
      refine aw_iload_n dX5_look_15 2 rfl ?_
      refine aw_callVi [.int x1, .int x2] [] (sp_X5_placeError (d := d - 1) (by omega) x1 x2 hT) dX5_look_16 ml_X5_164 im_X5_placeError (hT.s 0 (by decide)) (hT.n 0 (by decide)) rfl rfl (dl1 (d := d) (by omega)) rfl rfl (Nat.le_of_ble_eq_true rfl) rfl rfl (Nat.zero_le _) (Nat.zero_le _) ?_
      refine aw_istore [(4, .int (sX5_placeError M x1 x2)), (0, .ref 0), (1, .int x1), (2, .int x2), (3, .int x3)] dX5_look_19 (Nat.le_of_ble_eq_true rfl) rfl ?_
      refine aw_aload_n dX5_look_21 1 rfl ?_
      refine aw_iload dX5_look_22 0 rfl ?_
      refine aw_callVv [.int (sX5_placeError M x1 x2)] [] (sp_X5_tally (d := d - 1) (by omega) (sX5_placeError M x1 x2) hT) dX5_look_24 ml_X5_135 im_X5_tally (hT.s 0 (by decide)) (hT.n 0 (by decide)) rfl rfl (dl1 (d := d) (by omega)) rfl rfl (Nat.le_of_ble_eq_true rfl) rfl rfl (Nat.zero_le _) (Nat.zero_le _) ?_
      refine aw_aload_n dX5_look_27 1 rfl ?_
      refine aw_iload dX5_look_28 0 rfl ?_
      refine aw_iconst (v := -1) dX5_look_30 (by decide) ?_
      refine aw_callVi [.int (sX5_placeError M x1 x2), .int (-1)] [] (sp_X5_report (d := d - 1) (by omega) (sX5_placeError M x1 x2) (-1) ((sT_X5_tally M (sX5_placeError M x1 x2)).TC hT)) dX5_look_31 ml_X5_138 im_X5_report (((sT_X5_tally M (sX5_placeError M x1 x2)).TC hT).s 0 (by decide)) (((sT_X5_tally M (sX5_placeError M x1 x2)).TC hT).n 0 (by decide)) rfl rfl (dl1 (d := d) (by omega)) rfl rfl (Nat.le_of_ble_eq_true rfl) rfl rfl (Nat.zero_le _) (Nat.zero_le _) ?_
      refine aw_pop dX5_look_34 rfl ?_
      refine aw_iload dX5_look_35 0 rfl ?_
      refine aw_if_eq 42 dX5_look_37 (by decide) (fun c4 => ?_) (fun c4 => ?_)
      · refine aw_iload_n dX5_look_42 4 rfl ?_
        refine aw_if_ne 61 dX5_look_43 (by decide) (fun c5 => ?_) (fun c5 => ?_)
        · refine aw_aload_n dX5_look_61 1 rfl ?_
          refine aw_getR (b := 1) dX5_look_62 fl_X5_11 rfl (((sT_X5_report (tX5_tally M (sX5_placeError M x1 x2)) (sX5_placeError M x1 x2) (-1)).TC ((sT_X5_tally M (sX5_placeError M x1 x2)).TC hT)).s 0 (by decide)) (((sT_X5_report (tX5_tally M (sX5_placeError M x1 x2)) (sX5_placeError M x1 x2) (-1)).TC ((sT_X5_tally M (sX5_placeError M x1 x2)).TC hT)).n 0 (by decide)) (((sT_X5_report (tX5_tally M (sX5_placeError M x1 x2)) (sX5_placeError M x1 x2) (-1)).TC ((sT_X5_tally M (sX5_placeError M x1 x2)).TC hT)).r 0 0 (by decide) (by decide)) ?_
          refine aw_iload_n dX5_look_65 2 rfl ?_
          refine aw_aald (b := 54 + 3 * x1.toNatClampNeg) dX5_look_66 (((sT_X5_report (tX5_tally M (sX5_placeError M x1 x2)) (sX5_placeError M x1 x2) (-1)).TC ((sT_X5_tally M (sX5_placeError M x1 x2)).TC hT)).s 1 (by decide)) (((sT_X5_report (tX5_tally M (sX5_placeError M x1 x2)) (sX5_placeError M x1 x2) (-1)).TC ((sT_X5_tally M (sX5_placeError M x1 x2)).TC hT)).n 1 (by decide)) (placeE_vp c4) (((sT_X5_report (tX5_tally M (sX5_placeError M x1 x2)) (sX5_placeError M x1 x2) (-1)).TC ((sT_X5_tally M (sX5_placeError M x1 x2)).TC hT)).slot (vp_lt (placeE_vp c4))) ?_
          refine aw_getR (b := (54 + 3 * x1.toNatClampNeg) + 2) dX5_look_67 fl_X5_142 rfl (((sT_X5_report (tX5_tally M (sX5_placeError M x1 x2)) (sX5_placeError M x1 x2) (-1)).TC ((sT_X5_tally M (sX5_placeError M x1 x2)).TC hT)).row (t := x1.toNatClampNeg) (vp_lt (placeE_vp c4))).1 (((sT_X5_report (tX5_tally M (sX5_placeError M x1 x2)) (sX5_placeError M x1 x2) (-1)).TC ((sT_X5_tally M (sX5_placeError M x1 x2)).TC hT)).row (t := x1.toNatClampNeg) (vp_lt (placeE_vp c4))).n0 (((sT_X5_report (tX5_tally M (sX5_placeError M x1 x2)) (sX5_placeError M x1 x2) (-1)).TC ((sT_X5_tally M (sX5_placeError M x1 x2)).TC hT)).row (t := x1.toNatClampNeg) (vp_lt (placeE_vp c4))).2.2.2.2.1 ?_
          refine aw_iload_n dX5_look_70 3 rfl ?_
          refine aw_lald dX5_look_71 (((sT_X5_report (tX5_tally M (sX5_placeError M x1 x2)) (sX5_placeError M x1 x2) (-1)).TC ((sT_X5_tally M (sX5_placeError M x1 x2)).TC hT)).row (t := x1.toNatClampNeg) (vp_lt (placeE_vp c4))).2.2.1 (((sT_X5_report (tX5_tally M (sX5_placeError M x1 x2)) (sX5_placeError M x1 x2) (-1)).TC ((sT_X5_tally M (sX5_placeError M x1 x2)).TC hT)).row (t := x1.toNatClampNeg) (vp_lt (placeE_vp c4))).n2 (placeE_pl hZ c4) ?_
          refine aw_lret dX5_look_72 rfl (Nat.zero_le _) (Nat.zero_le _) ?_
          exact ⟨congrArg (fun z => some (Value.long z)) (show sX5_look M x1 x2 x3 = mL (tX5_report (tX5_tally M (sX5_placeError M x1 x2)) (sX5_placeError M x1 x2) (-1)) ((54 + 3 * x1.toNatClampNeg) + 2) x2.toNatClampNeg by unfold sX5_look; rw [if_neg c1, if_pos c3, if_pos c4, if_neg c5]).symm, (show tX5_look M x1 x2 x3 = (tX5_report (tX5_tally M (sX5_placeError M x1 x2)) (sX5_placeError M x1 x2) (-1)) by unfold tX5_look; rw [if_neg c1, if_pos c3, if_pos c4, if_neg c5]).symm⟩
        · refine aw_aload_n dX5_look_46 1 rfl ?_
          refine aw_getR (b := 1) dX5_look_47 fl_X5_11 rfl (((sT_X5_report (tX5_tally M (sX5_placeError M x1 x2)) (sX5_placeError M x1 x2) (-1)).TC ((sT_X5_tally M (sX5_placeError M x1 x2)).TC hT)).s 0 (by decide)) (((sT_X5_report (tX5_tally M (sX5_placeError M x1 x2)) (sX5_placeError M x1 x2) (-1)).TC ((sT_X5_tally M (sX5_placeError M x1 x2)).TC hT)).n 0 (by decide)) (((sT_X5_report (tX5_tally M (sX5_placeError M x1 x2)) (sX5_placeError M x1 x2) (-1)).TC ((sT_X5_tally M (sX5_placeError M x1 x2)).TC hT)).r 0 0 (by decide) (by decide)) ?_
          refine aw_iload_n dX5_look_50 2 rfl ?_
          refine aw_aald (b := 54 + 3 * x1.toNatClampNeg) dX5_look_51 (((sT_X5_report (tX5_tally M (sX5_placeError M x1 x2)) (sX5_placeError M x1 x2) (-1)).TC ((sT_X5_tally M (sX5_placeError M x1 x2)).TC hT)).s 1 (by decide)) (((sT_X5_report (tX5_tally M (sX5_placeError M x1 x2)) (sX5_placeError M x1 x2) (-1)).TC ((sT_X5_tally M (sX5_placeError M x1 x2)).TC hT)).n 1 (by decide)) (placeE_vp c4) (((sT_X5_report (tX5_tally M (sX5_placeError M x1 x2)) (sX5_placeError M x1 x2) (-1)).TC ((sT_X5_tally M (sX5_placeError M x1 x2)).TC hT)).slot (vp_lt (placeE_vp c4))) ?_
          refine aw_getR (b := (54 + 3 * x1.toNatClampNeg) + 1) dX5_look_52 fl_X5_170 rfl (((sT_X5_report (tX5_tally M (sX5_placeError M x1 x2)) (sX5_placeError M x1 x2) (-1)).TC ((sT_X5_tally M (sX5_placeError M x1 x2)).TC hT)).row (t := x1.toNatClampNeg) (vp_lt (placeE_vp c4))).1 (((sT_X5_report (tX5_tally M (sX5_placeError M x1 x2)) (sX5_placeError M x1 x2) (-1)).TC ((sT_X5_tally M (sX5_placeError M x1 x2)).TC hT)).row (t := x1.toNatClampNeg) (vp_lt (placeE_vp c4))).n0 (((sT_X5_report (tX5_tally M (sX5_placeError M x1 x2)) (sX5_placeError M x1 x2) (-1)).TC ((sT_X5_tally M (sX5_placeError M x1 x2)).TC hT)).row (t := x1.toNatClampNeg) (vp_lt (placeE_vp c4))).2.2.2.1 ?_
          refine aw_iload_n dX5_look_55 3 rfl ?_
          refine aw_iald dX5_look_56 (((sT_X5_report (tX5_tally M (sX5_placeError M x1 x2)) (sX5_placeError M x1 x2) (-1)).TC ((sT_X5_tally M (sX5_placeError M x1 x2)).TC hT)).row (t := x1.toNatClampNeg) (vp_lt (placeE_vp c4))).2.1 (((sT_X5_report (tX5_tally M (sX5_placeError M x1 x2)) (sX5_placeError M x1 x2) (-1)).TC ((sT_X5_tally M (sX5_placeError M x1 x2)).TC hT)).row (t := x1.toNatClampNeg) (vp_lt (placeE_vp c4))).n1 (placeE_pl hZ c4) ?_
          refine aw_i2l dX5_look_57 ?_
          refine aw_goto 72 dX5_look_58 (by decide) ?_
          refine aw_lret dX5_look_72 rfl (Nat.zero_le _) (Nat.zero_le _) ?_
          exact ⟨congrArg (fun z => some (Value.long z)) (show sX5_look M x1 x2 x3 = Int32.toInt64 (mI (tX5_report (tX5_tally M (sX5_placeError M x1 x2)) (sX5_placeError M x1 x2) (-1)) ((54 + 3 * x1.toNatClampNeg) + 1) x2.toNatClampNeg) by unfold sX5_look; rw [if_neg c1, if_pos c3, if_pos c4, if_pos c5]).symm, (show tX5_look M x1 x2 x3 = (tX5_report (tX5_tally M (sX5_placeError M x1 x2)) (sX5_placeError M x1 x2) (-1)) by unfold tX5_look; rw [if_neg c1, if_pos c3, if_pos c4, if_pos c5]).symm⟩
      · refine aw_lconst (v := 0) dX5_look_40 (by decide) ?_
        refine aw_lret dX5_look_41 rfl (Nat.zero_le _) (Nat.zero_le _) ?_
        exact ⟨congrArg (fun z => some (Value.long z)) (show sX5_look M x1 x2 x3 = 0 by unfold sX5_look; rw [if_neg c1, if_pos c3, if_neg c4]).symm, (show tX5_look M x1 x2 x3 = (tX5_report (tX5_tally M (sX5_placeError M x1 x2)) (sX5_placeError M x1 x2) (-1)) by unfold tX5_look; rw [if_neg c1, if_pos c3, if_neg c4]).symm⟩
    · refine aw_iconst (v := -1) dX5_look_9 (by decide) ?_
      refine aw_goto 19 dX5_look_10 (by decide) ?_
      refine aw_istore [(4, .int (-1)), (0, .ref 0), (1, .int x1), (2, .int x2), (3, .int x3)] dX5_look_19 (Nat.le_of_ble_eq_true rfl) rfl ?_
      refine aw_aload_n dX5_look_21 1 rfl ?_
      refine aw_iload dX5_look_22 0 rfl ?_
      refine aw_callVv [.int (-1)] [] (sp_X5_tally (d := d - 1) (by omega) (-1) hT) dX5_look_24 ml_X5_135 im_X5_tally (hT.s 0 (by decide)) (hT.n 0 (by decide)) rfl rfl (dl1 (d := d) (by omega)) rfl rfl (Nat.le_of_ble_eq_true rfl) rfl rfl (Nat.zero_le _) (Nat.zero_le _) ?_
      refine aw_aload_n dX5_look_27 1 rfl ?_
      refine aw_iload dX5_look_28 0 rfl ?_
      refine aw_iconst (v := -1) dX5_look_30 (by decide) ?_
      refine aw_callVi [.int (-1), .int (-1)] [] (sp_X5_report (d := d - 1) (by omega) (-1) (-1) ((sT_X5_tally M (-1)).TC hT)) dX5_look_31 ml_X5_138 im_X5_report (((sT_X5_tally M (-1)).TC hT).s 0 (by decide)) (((sT_X5_tally M (-1)).TC hT).n 0 (by decide)) rfl rfl (dl1 (d := d) (by omega)) rfl rfl (Nat.le_of_ble_eq_true rfl) rfl rfl (Nat.zero_le _) (Nat.zero_le _) ?_
      refine aw_pop dX5_look_34 rfl ?_
      refine aw_iload dX5_look_35 0 rfl ?_
      refine aw_if_eq 42 dX5_look_37 (by decide) (fun c6 => absurd c6 (by decide)) (fun c6 => ?_)
      refine aw_lconst (v := 0) dX5_look_40 (by decide) ?_
      refine aw_lret dX5_look_41 rfl (Nat.zero_le _) (Nat.zero_le _) ?_
      exact ⟨congrArg (fun z => some (Value.long z)) (show sX5_look M x1 x2 x3 = 0 by unfold sX5_look; rw [if_neg c1, if_neg c3]).symm, (show tX5_look M x1 x2 x3 = (tX5_report (tX5_tally M (-1)) (-1) (-1)) by unfold tX5_look; rw [if_neg c1, if_neg c3]).symm⟩
