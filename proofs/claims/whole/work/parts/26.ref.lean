-- THE REFERENCE: tape, names, counts
def TapR (M : xM) : Prop := ∃ l, l ≤ 200 ∧ mI M 0 6 = nI l
def KnR (M : xM) : Prop := ∀ t, t < 12 → mI M 1 t = -1 ∨ ∃ k, k < 16 ∧ mI M 1 t = nI k
theorem tp_vp1 {M : xM} {x : Int32} (hL : TapR M) (h1 : ¬ x < 0) (h2 : ¬ mI M 0 6 ≤ x) : vp_in x 200 := by
  obtain ⟨q, hq, e⟩ := hL
  have a1 : ¬ x.toInt < (0 : Int) := fun z => h1 (Int32.lt_iff_toInt_lt.mpr z)
  have a2 : ¬ (mI M 0 6).toInt ≤ x.toInt := fun z => h2 (Int32.le_iff_toInt_le.mpr z)
  rw [e, nI_toInt (by omega)] at a2
  rw [vp_in_iff]
  omega
theorem tp_vp2 {M : xM} {x : Int32} (hL : TapR M) (h1 : ¬ x < 0) (h2 : ¬ mI M 0 6 < x) (h3 : ¬ x = 200) : vp_in x 200 := by
  obtain ⟨q, hq, e⟩ := hL
  have a1 : ¬ x.toInt < (0 : Int) := fun z => h1 (Int32.lt_iff_toInt_lt.mpr z)
  have a2 : ¬ (mI M 0 6).toInt < x.toInt := fun z => h2 (Int32.lt_iff_toInt_lt.mpr z)
  have a3 : ¬ x.toInt = 200 := fun z => h3 (Int32.toInt_inj.mp (z.trans rfl))
  rw [e, nI_toInt (by omega)] at a2
  rw [vp_in_iff]
  omega
theorem thing_vp12 {x : Int32} (h : ¬ bz (sX6_isThing x.toInt64) = 0) : vp_in x 12 := by
  have h := bz_n0.mp h
  unfold sX6_isThing sX6_isIn at h
  by_cases h1 : x.toInt64 < 0
  · rw [if_pos h1] at h; cases h
  · by_cases h2 : 11 < x.toInt64
    · rw [if_neg h1, if_pos h2] at h; cases h
    · have a1 : ¬ x.toInt64.toInt < (0 : Int) := fun z => h1 (Int64.lt_iff_toInt_lt.mpr z)
      have a2 : ¬ (11 : Int) < x.toInt64.toInt := fun z => h2 (Int64.lt_iff_toInt_lt.mpr z)
      rw [Int32.toInt_toInt64] at a1 a2
      rw [vp_in_iff]
      omega
theorem kndR_vp {M : xM} {x : Int32} (hK : KnR M) (h : ¬ bz (sX6_isThing x.toInt64) = 0) (h2 : ¬ mI M 1 x.toNatClampNeg < 0) : vp_in (mI M 1 x.toNatClampNeg) 16 := by
  rcases hK _ (vp_lt (thing_vp12 h)) with e | ⟨k, hk, e⟩
  · rw [e] at h2; exact absurd (by decide) h2
  · rw [e]; exact vp_in_nI hk (by decide)
theorem cnt2_vp {x : Int32} (h : ¬ bz (sX6_isIn x.toInt64 4 8) = 0) : vp_in (x - 4) 5 := by
  have h := bz_n0.mp h
  unfold sX6_isIn at h
  by_cases h1 : x.toInt64 < 4
  · rw [if_pos h1] at h; cases h
  · by_cases h2 : 8 < x.toInt64
    · rw [if_neg h1, if_pos h2] at h; cases h
    · have a1 : ¬ x.toInt64.toInt < (4 : Int) := fun z => h1 (Int64.lt_iff_toInt_lt.mpr z)
      have a2 : ¬ (8 : Int) < x.toInt64.toInt := fun z => h2 (Int64.lt_iff_toInt_lt.mpr z)
      rw [Int32.toInt_toInt64] at a1 a2
      have e : (4 : Int32).toInt = 4 := rfl
      rw [vp_in_iff, Int32.toInt_sub, e, Int.bmod_eq_of_le (by omega) (by omega)]
      omega
def sX6_tape (M : xM) (x1 : Int32) : Int32 := (if x1 < 0 then -1 else (if (mI M 0 6) ≤ x1 then -1 else mI M 6 x1.toNatClampNeg))
theorem sp_X6_tape {d : Nat} (hd : 0 ≤ d) {M : xM} (x1 : Int32) (hT : TR M) (hL : TapR M) : Sp (fX6_tape d) [.ref 0, .int x1] M (dt (some (.int (sX6_tape M x1))) (M)) := by
  refine Sp.of pn_X6 (Nat.le_of_ble_eq_true rfl) (fun h => Bool.noConfusion h) ?_
  refine aw_iload_n dX6_tape_0 1 rfl ?_
  refine aw_if_lt 21 dX6_tape_1 (by decide) (fun c1 => ?_) (fun c1 => ?_)
  · refine aw_iconst (v := -1) dX6_tape_21 (by decide) ?_
    refine aw_iret dX6_tape_22 rfl (Nat.zero_le _) (Nat.zero_le _) ?_
    exact ⟨congrArg (fun z => some (Value.int z)) (show sX6_tape M x1 = -1 by unfold sX6_tape; rw [if_pos c1]).symm, rfl⟩
  · refine aw_iload_n dX6_tape_4 1 rfl ?_
    refine aw_aload_n dX6_tape_5 0 rfl ?_
    refine aw_getI dX6_tape_6 fl_X6_354 (hT.s 0 (by decide)) (hT.n 0 (by decide)) ?_
    refine aw_icmp_ge 21 dX6_tape_9 (by decide) (fun c2 => ?_) (fun c2 => ?_)
    · refine aw_iconst (v := -1) dX6_tape_21 (by decide) ?_
      refine aw_iret dX6_tape_22 rfl (Nat.zero_le _) (Nat.zero_le _) ?_
      exact ⟨congrArg (fun z => some (Value.int z)) (show sX6_tape M x1 = -1 by unfold sX6_tape; rw [if_neg c1, if_pos c2]).symm, rfl⟩
    · refine aw_aload_n dX6_tape_12 0 rfl ?_
      refine aw_getR (b := 6) dX6_tape_13 fl_X6_26 rfl (hT.s 0 (by decide)) (hT.n 0 (by decide)) (hT.r 5) ?_
      refine aw_iload_n dX6_tape_16 1 rfl ?_
      refine aw_iald dX6_tape_17 (hT.s 6 (by decide)) (hT.n 6 (by decide)) (tp_vp1 hL c1 c2) ?_
      refine aw_goto 22 dX6_tape_18 (by decide) ?_
      refine aw_iret dX6_tape_22 rfl (Nat.zero_le _) (Nat.zero_le _) ?_
      exact ⟨congrArg (fun z => some (Value.int z)) (show sX6_tape M x1 = mI M 6 x1.toNatClampNeg by unfold sX6_tape; rw [if_neg c1, if_neg c2]).symm, rfl⟩
def sX6_poke (M : xM) (x1 : Int32) (x2 : Int32) : Int32 := (if x1 < 0 then -1 else (if (mI M 0 6) < x1 then -1 else (if (bz (sX6_isIn (Int32.toInt64 x2) 0 255)) = 0 then -1 else (if x1 = 200 then -3 else (if (mI M 0 6) ≤ x1 then (if (mI (stI M 6 x1.toNatClampNeg x2) 0 6) ≤ x1 then -4 else -4) else (if (mI (stI M 6 x1.toNatClampNeg x2) 0 6) ≤ x1 then mI M 6 x1.toNatClampNeg else mI M 6 x1.toNatClampNeg))))))
def tX6_poke (M : xM) (x1 : Int32) (x2 : Int32) : xM := (if x1 < 0 then M else (if (mI M 0 6) < x1 then M else (if (bz (sX6_isIn (Int32.toInt64 x2) 0 255)) = 0 then M else (if x1 = 200 then M else (if (mI M 0 6) ≤ x1 then (if (mI (stI M 6 x1.toNatClampNeg x2) 0 6) ≤ x1 then (stI (stI M 6 x1.toNatClampNeg x2) 0 6 ((mI (stI M 6 x1.toNatClampNeg x2) 0 6) + 1)) else (stI (stI M 6 x1.toNatClampNeg x2) 0 6 (mI (stI M 6 x1.toNatClampNeg x2) 0 6))) else (if (mI (stI M 6 x1.toNatClampNeg x2) 0 6) ≤ x1 then (stI (stI M 6 x1.toNatClampNeg x2) 0 6 ((mI (stI M 6 x1.toNatClampNeg x2) 0 6) + 1)) else (stI (stI M 6 x1.toNatClampNeg x2) 0 6 (mI (stI M 6 x1.toNatClampNeg x2) 0 6))))))))
theorem sT_X6_poke (M : xM) (x1 : Int32) (x2 : Int32) : sT M (tX6_poke M x1 x2) := (sT.ite (sT.rf M) (sT.ite (sT.rf M) (sT.ite (sT.rf M) (sT.ite (sT.rf M) (sT.ite (sT.ite (((sT.rf M).tr (sT.I _ _ _ _)).tr (sT.I _ _ _ _)) (((sT.rf M).tr (sT.I _ _ _ _)).tr (sT.I _ _ _ _))) (sT.ite (((sT.rf M).tr (sT.I _ _ _ _)).tr (sT.I _ _ _ _)) (((sT.rf M).tr (sT.I _ _ _ _)).tr (sT.I _ _ _ _))))))))
theorem sp_X6_poke {d : Nat} (hd : 1 ≤ d) {M : xM} (x1 : Int32) (x2 : Int32) (hT : TR M) (hL : TapR M) : Sp (fX6_poke d) [.ref 0, .int x1, .int x2] M (dt (some (.int (sX6_poke M x1 x2))) (tX6_poke M x1 x2)) := by
  refine Sp.of pn_X6 (Nat.le_of_ble_eq_true rfl) (fun h => Bool.noConfusion h) ?_
  refine aw_iload_n dX6_poke_0 1 rfl ?_
  refine aw_if_lt 24 dX6_poke_1 (by decide) (fun c1 => ?_) (fun c1 => ?_)
  · refine aw_iconst (v := -1) dX6_poke_24 (by decide) ?_
    refine aw_iret dX6_poke_25 rfl (Nat.zero_le _) (Nat.zero_le _) ?_
    exact ⟨congrArg (fun z => some (Value.int z)) (show sX6_poke M x1 x2 = -1 by unfold sX6_poke; rw [if_pos c1]).symm, (show tX6_poke M x1 x2 = M by unfold tX6_poke; rw [if_pos c1]).symm⟩
  · refine aw_iload_n dX6_poke_4 1 rfl ?_
    refine aw_aload_n dX6_poke_5 0 rfl ?_
    refine aw_getI dX6_poke_6 fl_X6_354 (hT.s 0 (by decide)) (hT.n 0 (by decide)) ?_
    refine aw_icmp_gt 24 dX6_poke_9 (by decide) (fun c2 => ?_) (fun c2 => ?_)
    · refine aw_iconst (v := -1) dX6_poke_24 (by decide) ?_
      refine aw_iret dX6_poke_25 rfl (Nat.zero_le _) (Nat.zero_le _) ?_
      exact ⟨congrArg (fun z => some (Value.int z)) (show sX6_poke M x1 x2 = -1 by unfold sX6_poke; rw [if_neg c1, if_pos c2]).symm, (show tX6_poke M x1 x2 = M by unfold tX6_poke; rw [if_neg c1, if_pos c2]).symm⟩
    · refine aw_iload_n dX6_poke_12 2 rfl ?_
      refine aw_i2l dX6_poke_13 ?_
      refine aw_lconst (v := 0) dX6_poke_14 (by decide) ?_
      refine aw_ldc2 dX6_poke_15 kc_X6_238 ?_
      refine aw_callSi [.long (Int32.toInt64 x2), .long 0, .long 255] [] (sp_X6_isIn (d := d - 1) (by omega) (Int32.toInt64 x2) 0 255 ) dX6_poke_18 ml_X6_73 sm_X6_isIn rfl (dl1 (d := d) (by omega)) rfl rfl (Nat.le_of_ble_eq_true rfl) rfl rfl (Nat.zero_le _) (Nat.zero_le _) ?_
      refine aw_if_ne 26 dX6_poke_21 (by decide) (fun c3 => ?_) (fun c3 => ?_)
      · refine aw_iload_n dX6_poke_26 1 rfl ?_
        refine aw_sipush (v := 200) dX6_poke_27 (by decide) ?_
        refine aw_icmp_ne 36 dX6_poke_30 (by decide) (fun c4 => ?_) (fun c4 => ?_)
        · refine aw_iload_n dX6_poke_36 1 rfl ?_
          refine aw_aload_n dX6_poke_37 0 rfl ?_
          refine aw_getI dX6_poke_38 fl_X6_354 (hT.s 0 (by decide)) (hT.n 0 (by decide)) ?_
          refine aw_icmp_ge 53 dX6_poke_41 (by decide) (fun c5 => ?_) (fun c5 => ?_)
          · refine aw_bipush (v := -4) dX6_poke_53 (by decide) ?_
            refine aw_istore_n [(3, .int (-4)), (0, .ref 0), (1, .int x1), (2, .int x2)] dX6_poke_55 (Nat.le_of_ble_eq_true rfl) rfl ?_
            refine aw_aload_n dX6_poke_56 1 rfl ?_
            refine aw_getR (b := 6) dX6_poke_57 fl_X6_26 rfl (hT.s 0 (by decide)) (hT.n 0 (by decide)) (hT.r 5) ?_
            refine aw_iload_n dX6_poke_60 2 rfl ?_
            refine aw_iload_n dX6_poke_61 3 rfl ?_
            refine aw_iast dX6_poke_62 (hT.s 6 (by decide)) (hT.n 6 (by decide)) (tp_vp2 hL c1 c2 c4) ?_
            refine aw_aload_n dX6_poke_63 1 rfl ?_
            refine aw_iload_n dX6_poke_64 2 rfl ?_
            refine aw_aload_n dX6_poke_65 1 rfl ?_
            refine aw_getI dX6_poke_66 fl_X6_354 (hT.s 0 (by decide)) (hT.n 0 (by decide)) ?_
            refine aw_icmp_ge 79 dX6_poke_69 (by decide) (fun c6 => ?_) (fun c6 => ?_)
            · refine aw_aload_n dX6_poke_79 1 rfl ?_
              refine aw_getI dX6_poke_80 fl_X6_354 (hT.s 0 (by decide)) (hT.n 0 (by decide)) ?_
              refine aw_iconst (v := 1) dX6_poke_83 (by decide) ?_
              refine aw_iadd dX6_poke_84 ?_
              refine aw_putI dX6_poke_85 fl_X6_354 (Or.inl rfl) (hT.s 0 (by decide)) (hT.n 0 (by decide)) ?_
              refine aw_iload_n dX6_poke_88 0 rfl ?_
              refine aw_iret dX6_poke_89 rfl (Nat.zero_le _) (Nat.zero_le _) ?_
              exact ⟨congrArg (fun z => some (Value.int z)) (show sX6_poke M x1 x2 = -4 by unfold sX6_poke; rw [if_neg c1, if_neg c2, if_neg c3, if_neg c4, if_pos c5, if_pos c6]).symm, (show tX6_poke M x1 x2 = (stI (stI M 6 x1.toNatClampNeg x2) 0 6 ((mI (stI M 6 x1.toNatClampNeg x2) 0 6) + 1)) by unfold tX6_poke; rw [if_neg c1, if_neg c2, if_neg c3, if_neg c4, if_pos c5, if_pos c6]).symm⟩
            · refine aw_aload_n dX6_poke_72 1 rfl ?_
              refine aw_getI dX6_poke_73 fl_X6_354 (hT.s 0 (by decide)) (hT.n 0 (by decide)) ?_
              refine aw_goto 85 dX6_poke_76 (by decide) ?_
              refine aw_putI dX6_poke_85 fl_X6_354 (Or.inl rfl) (hT.s 0 (by decide)) (hT.n 0 (by decide)) ?_
              refine aw_iload_n dX6_poke_88 0 rfl ?_
              refine aw_iret dX6_poke_89 rfl (Nat.zero_le _) (Nat.zero_le _) ?_
              exact ⟨congrArg (fun z => some (Value.int z)) (show sX6_poke M x1 x2 = -4 by unfold sX6_poke; rw [if_neg c1, if_neg c2, if_neg c3, if_neg c4, if_pos c5, if_neg c6]).symm, (show tX6_poke M x1 x2 = (stI (stI M 6 x1.toNatClampNeg x2) 0 6 (mI (stI M 6 x1.toNatClampNeg x2) 0 6)) by unfold tX6_poke; rw [if_neg c1, if_neg c2, if_neg c3, if_neg c4, if_pos c5, if_neg c6]).symm⟩
          · refine aw_aload_n dX6_poke_44 0 rfl ?_
            refine aw_getR (b := 6) dX6_poke_45 fl_X6_26 rfl (hT.s 0 (by decide)) (hT.n 0 (by decide)) (hT.r 5) ?_
            refine aw_iload_n dX6_poke_48 1 rfl ?_
            refine aw_iald dX6_poke_49 (hT.s 6 (by decide)) (hT.n 6 (by decide)) (tp_vp1 hL c1 c5) ?_
            refine aw_goto 55 dX6_poke_50 (by decide) ?_
            refine aw_istore_n [(3, .int (mI M 6 x1.toNatClampNeg)), (0, .ref 0), (1, .int x1), (2, .int x2)] dX6_poke_55 (Nat.le_of_ble_eq_true rfl) rfl ?_
            refine aw_aload_n dX6_poke_56 1 rfl ?_
            refine aw_getR (b := 6) dX6_poke_57 fl_X6_26 rfl (hT.s 0 (by decide)) (hT.n 0 (by decide)) (hT.r 5) ?_
            refine aw_iload_n dX6_poke_60 2 rfl ?_
            refine aw_iload_n dX6_poke_61 3 rfl ?_
            refine aw_iast dX6_poke_62 (hT.s 6 (by decide)) (hT.n 6 (by decide)) (tp_vp2 hL c1 c2 c4) ?_
            refine aw_aload_n dX6_poke_63 1 rfl ?_
            refine aw_iload_n dX6_poke_64 2 rfl ?_
            refine aw_aload_n dX6_poke_65 1 rfl ?_
            refine aw_getI dX6_poke_66 fl_X6_354 (hT.s 0 (by decide)) (hT.n 0 (by decide)) ?_
            refine aw_icmp_ge 79 dX6_poke_69 (by decide) (fun c7 => ?_) (fun c7 => ?_)
            · refine aw_aload_n dX6_poke_79 1 rfl ?_
              refine aw_getI dX6_poke_80 fl_X6_354 (hT.s 0 (by decide)) (hT.n 0 (by decide)) ?_
              refine aw_iconst (v := 1) dX6_poke_83 (by decide) ?_
              refine aw_iadd dX6_poke_84 ?_
              refine aw_putI dX6_poke_85 fl_X6_354 (Or.inl rfl) (hT.s 0 (by decide)) (hT.n 0 (by decide)) ?_
              refine aw_iload_n dX6_poke_88 0 rfl ?_
              refine aw_iret dX6_poke_89 rfl (Nat.zero_le _) (Nat.zero_le _) ?_
              exact ⟨congrArg (fun z => some (Value.int z)) (show sX6_poke M x1 x2 = mI M 6 x1.toNatClampNeg by unfold sX6_poke; rw [if_neg c1, if_neg c2, if_neg c3, if_neg c4, if_neg c5, if_pos c7]).symm, (show tX6_poke M x1 x2 = (stI (stI M 6 x1.toNatClampNeg x2) 0 6 ((mI (stI M 6 x1.toNatClampNeg x2) 0 6) + 1)) by unfold tX6_poke; rw [if_neg c1, if_neg c2, if_neg c3, if_neg c4, if_neg c5, if_pos c7]).symm⟩
            · refine aw_aload_n dX6_poke_72 1 rfl ?_
              refine aw_getI dX6_poke_73 fl_X6_354 (hT.s 0 (by decide)) (hT.n 0 (by decide)) ?_
              refine aw_goto 85 dX6_poke_76 (by decide) ?_
              refine aw_putI dX6_poke_85 fl_X6_354 (Or.inl rfl) (hT.s 0 (by decide)) (hT.n 0 (by decide)) ?_
              refine aw_iload_n dX6_poke_88 0 rfl ?_
              refine aw_iret dX6_poke_89 rfl (Nat.zero_le _) (Nat.zero_le _) ?_
              exact ⟨congrArg (fun z => some (Value.int z)) (show sX6_poke M x1 x2 = mI M 6 x1.toNatClampNeg by unfold sX6_poke; rw [if_neg c1, if_neg c2, if_neg c3, if_neg c4, if_neg c5, if_neg c7]).symm, (show tX6_poke M x1 x2 = (stI (stI M 6 x1.toNatClampNeg x2) 0 6 (mI (stI M 6 x1.toNatClampNeg x2) 0 6)) by unfold tX6_poke; rw [if_neg c1, if_neg c2, if_neg c3, if_neg c4, if_neg c5, if_neg c7]).symm⟩
        · refine aw_bipush (v := -3) dX6_poke_33 (by decide) ?_
          refine aw_iret dX6_poke_35 rfl (Nat.zero_le _) (Nat.zero_le _) ?_
          exact ⟨congrArg (fun z => some (Value.int z)) (show sX6_poke M x1 x2 = -3 by unfold sX6_poke; rw [if_neg c1, if_neg c2, if_neg c3, if_pos c4]).symm, (show tX6_poke M x1 x2 = M by unfold tX6_poke; rw [if_neg c1, if_neg c2, if_neg c3, if_pos c4]).symm⟩
      · refine aw_iconst (v := -1) dX6_poke_24 (by decide) ?_
        refine aw_iret dX6_poke_25 rfl (Nat.zero_le _) (Nat.zero_le _) ?_
        exact ⟨congrArg (fun z => some (Value.int z)) (show sX6_poke M x1 x2 = -1 by unfold sX6_poke; rw [if_neg c1, if_neg c2, if_pos c3]).symm, (show tX6_poke M x1 x2 = M by unfold tX6_poke; rw [if_neg c1, if_neg c2, if_pos c3]).symm⟩
def sX6_called (M : xM) (x1 : Int32) : Int64 := (if (bz (sX6_isThing (Int32.toInt64 x1))) = 0 then 0 else (if (mI M 1 x1.toNatClampNeg) < 0 then 0 else mL M 18 ((mI M 1 x1.toNatClampNeg).toNatClampNeg)))
theorem sp_X6_called {d : Nat} (hd : 2 ≤ d) {M : xM} (x1 : Int32) (hT : TR M) (hK : KnR M) : Sp (fX6_called d) [.ref 0, .int x1] M (dt (some (.long (sX6_called M x1))) (M)) := by
  refine Sp.of pn_X6 (Nat.le_of_ble_eq_true rfl) (fun h => Bool.noConfusion h) ?_
  refine aw_iload_n dX6_called_0 1 rfl ?_
  refine aw_i2l dX6_called_1 ?_
  refine aw_callSi [.long (Int32.toInt64 x1)] [] (sp_X6_isThing (d := d - 1) (by omega) (Int32.toInt64 x1) ) dX6_called_2 ml_X6_159 sm_X6_isThing rfl (dl1 (d := d) (by omega)) rfl rfl (Nat.le_of_ble_eq_true rfl) rfl rfl (Nat.zero_le _) (Nat.zero_le _) ?_
  refine aw_if_eq 31 dX6_called_5 (by decide) (fun c1 => ?_) (fun c1 => ?_)
  · refine aw_lconst (v := 0) dX6_called_31 (by decide) ?_
    refine aw_lret dX6_called_32 rfl (Nat.zero_le _) (Nat.zero_le _) ?_
    exact ⟨congrArg (fun z => some (Value.long z)) (show sX6_called M x1 = 0 by unfold sX6_called; rw [if_pos c1]).symm, rfl⟩
  · refine aw_aload_n dX6_called_8 0 rfl ?_
    refine aw_getR (b := 1) dX6_called_9 fl_X6_7 rfl (hT.s 0 (by decide)) (hT.n 0 (by decide)) (hT.r 0) ?_
    refine aw_iload_n dX6_called_12 1 rfl ?_
    refine aw_iald dX6_called_13 (hT.s 1 (by decide)) (hT.n 1 (by decide)) (thing_vp c1) ?_
    refine aw_if_lt 31 dX6_called_14 (by decide) (fun c2 => ?_) (fun c2 => ?_)
    · refine aw_lconst (v := 0) dX6_called_31 (by decide) ?_
      refine aw_lret dX6_called_32 rfl (Nat.zero_le _) (Nat.zero_le _) ?_
      exact ⟨congrArg (fun z => some (Value.long z)) (show sX6_called M x1 = 0 by unfold sX6_called; rw [if_neg c1, if_pos c2]).symm, rfl⟩
    · refine aw_aload_n dX6_called_17 0 rfl ?_
      refine aw_getR (b := 18) dX6_called_18 fl_X6_66 rfl (hT.s 0 (by decide)) (hT.n 0 (by decide)) (hT.r 32) ?_
      refine aw_aload_n dX6_called_21 0 rfl ?_
      refine aw_getR (b := 1) dX6_called_22 fl_X6_7 rfl (hT.s 0 (by decide)) (hT.n 0 (by decide)) (hT.r 0) ?_
      refine aw_iload_n dX6_called_25 1 rfl ?_
      refine aw_iald dX6_called_26 (hT.s 1 (by decide)) (hT.n 1 (by decide)) (thing_vp c1) ?_
      refine aw_lald dX6_called_27 (hT.s 18 (by decide)) (hT.n 18 (by decide)) (kndR_vp hK c1 c2) ?_
      refine aw_goto 32 dX6_called_28 (by decide) ?_
      refine aw_lret dX6_called_32 rfl (Nat.zero_le _) (Nat.zero_le _) ?_
      exact ⟨congrArg (fun z => some (Value.long z)) (show sX6_called M x1 = mL M 18 ((mI M 1 x1.toNatClampNeg).toNatClampNeg) by unfold sX6_called; rw [if_neg c1, if_neg c2]).symm, rfl⟩
def sX6_count (M : xM) (x1 : Int32) : Int32 := (if x1 = 0 then sX6_things M else (if x1 = 1 then mI M 0 6 else (if x1 = 2 then mI M 0 7 else (if x1 = 3 then mI M 0 8 else (if (bz (sX6_isIn (Int32.toInt64 x1) 4 8)) = 0 then -1 else mI M 7 ((x1 - 4).toNatClampNeg))))))
theorem sp_X6_count {d : Nat} (hd : 1 ≤ d) {M : xM} (x1 : Int32) (hT : TR M)  : Sp (fX6_count d) [.ref 0, .int x1] M (dt (some (.int (sX6_count M x1))) (M)) := by
  refine Sp.of pn_X6 (Nat.le_of_ble_eq_true rfl) (fun h => Bool.noConfusion h) ?_
  refine aw_iload_n dX6_count_0 1 rfl ?_
  by_cases c1 : x1 = 0
  · refine aw_tableIn 32 dX6_count_1 (by rw [c1]; decide) (by rw [c1]; decide) (by rw [c1]; rfl) (by decide) ?_
    refine aw_aload_n dX6_count_32 0 rfl ?_
    refine aw_callVi [] [] (sp_X6_things (d := d - 1) (by omega)  hT) dX6_count_33 ml_X6_173 im_X6_things (hT.s 0 (by decide)) (hT.n 0 (by decide)) rfl rfl (dl1 (d := d) (by omega)) rfl rfl (Nat.le_of_ble_eq_true rfl) rfl rfl (Nat.zero_le _) (Nat.zero_le _) ?_
    refine aw_iret dX6_count_36 rfl (Nat.zero_le _) (Nat.zero_le _) ?_
    exact ⟨congrArg (fun z => some (Value.int z)) (show sX6_count M x1 = sX6_things M by unfold sX6_count; rw [if_pos c1]).symm, rfl⟩
  by_cases c2 : x1 = 1
  · refine aw_tableIn 37 dX6_count_1 (by rw [c2]; decide) (by rw [c2]; decide) (by rw [c2]; rfl) (by decide) ?_
    refine aw_aload_n dX6_count_37 0 rfl ?_
    refine aw_getI dX6_count_38 fl_X6_354 (hT.s 0 (by decide)) (hT.n 0 (by decide)) ?_
    refine aw_iret dX6_count_41 rfl (Nat.zero_le _) (Nat.zero_le _) ?_
    exact ⟨congrArg (fun z => some (Value.int z)) (show sX6_count M x1 = mI M 0 6 by unfold sX6_count; rw [if_neg c1, if_pos c2]).symm, rfl⟩
  by_cases c3 : x1 = 2
  · refine aw_tableIn 42 dX6_count_1 (by rw [c3]; decide) (by rw [c3]; decide) (by rw [c3]; rfl) (by decide) ?_
    refine aw_aload_n dX6_count_42 0 rfl ?_
    refine aw_getI dX6_count_43 fl_X6_366 (hT.s 0 (by decide)) (hT.n 0 (by decide)) ?_
    refine aw_iret dX6_count_46 rfl (Nat.zero_le _) (Nat.zero_le _) ?_
    exact ⟨congrArg (fun z => some (Value.int z)) (show sX6_count M x1 = mI M 0 7 by unfold sX6_count; rw [if_neg c1, if_neg c2, if_pos c3]).symm, rfl⟩
  by_cases c4 : x1 = 3
  · refine aw_tableIn 47 dX6_count_1 (by rw [c4]; decide) (by rw [c4]; decide) (by rw [c4]; rfl) (by decide) ?_
    refine aw_aload_n dX6_count_47 0 rfl ?_
    refine aw_getI dX6_count_48 fl_X6_357 (hT.s 0 (by decide)) (hT.n 0 (by decide)) ?_
    refine aw_iret dX6_count_51 rfl (Nat.zero_le _) (Nat.zero_le _) ?_
    exact ⟨congrArg (fun z => some (Value.int z)) (show sX6_count M x1 = mI M 0 8 by unfold sX6_count; rw [if_neg c1, if_neg c2, if_neg c3, if_pos c4]).symm, rfl⟩
  refine aw_tableOut 52 dX6_count_1 (by have ec1 : ¬ (Int32.toInt x1) = 0 := fun z => c1 (Int32.toInt_inj.mp (z.trans rfl)); have ec2 : ¬ (Int32.toInt x1) = 1 := fun z => c2 (Int32.toInt_inj.mp (z.trans rfl)); have ec3 : ¬ (Int32.toInt x1) = 2 := fun z => c3 (Int32.toInt_inj.mp (z.trans rfl)); have ec4 : ¬ (Int32.toInt x1) = 3 := fun z => c4 (Int32.toInt_inj.mp (z.trans rfl)); omega) (by decide) ?_
  refine aw_iload_n dX6_count_52 1 rfl ?_
  refine aw_i2l dX6_count_53 ?_
  refine aw_ldc2 dX6_count_54 kc_X6_229 ?_
  refine aw_ldc2 dX6_count_57 kc_X6_385 ?_
  refine aw_callSi [.long (Int32.toInt64 x1), .long 4, .long 8] [] (sp_X6_isIn (d := d - 1) (by omega) (Int32.toInt64 x1) 4 8 ) dX6_count_60 ml_X6_73 sm_X6_isIn rfl (dl1 (d := d) (by omega)) rfl rfl (Nat.le_of_ble_eq_true rfl) rfl rfl (Nat.zero_le _) (Nat.zero_le _) ?_
  refine aw_if_eq 77 dX6_count_63 (by decide) (fun c5 => ?_) (fun c5 => ?_)
  · refine aw_iconst (v := -1) dX6_count_77 (by decide) ?_
    refine aw_iret dX6_count_78 rfl (Nat.zero_le _) (Nat.zero_le _) ?_
    exact ⟨congrArg (fun z => some (Value.int z)) (show sX6_count M x1 = -1 by unfold sX6_count; rw [if_neg c1, if_neg c2, if_neg c3, if_neg c4, if_pos c5]).symm, rfl⟩
  · refine aw_aload_n dX6_count_66 0 rfl ?_
    refine aw_getR (b := 7) dX6_count_67 fl_X6_33 rfl (hT.s 0 (by decide)) (hT.n 0 (by decide)) (hT.r 11) ?_
    refine aw_iload_n dX6_count_70 1 rfl ?_
    refine aw_iconst (v := 4) dX6_count_71 (by decide) ?_
    refine aw_isub dX6_count_72 ?_
    refine aw_iald dX6_count_73 (hT.s 7 (by decide)) (hT.n 7 (by decide)) (cnt2_vp c5) ?_
    refine aw_goto 78 dX6_count_74 (by decide) ?_
    refine aw_iret dX6_count_78 rfl (Nat.zero_le _) (Nat.zero_le _) ?_
    exact ⟨congrArg (fun z => some (Value.int z)) (show sX6_count M x1 = mI M 7 ((x1 - 4).toNatClampNeg) by unfold sX6_count; rw [if_neg c1, if_neg c2, if_neg c3, if_neg c4, if_neg c5]).symm, rfl⟩
abbrev nmR (M : xM) (x : Int64) (k : Nat) : Bool := decide (mL M 18 k = x)
def sX6_named (M : xM) (x : Int64) : Int32 := if bz (wrd x) = 0 then -1 else lsd (nmR M x) (-4) 16 0
theorem sp_X6_named {d : Nat} (hd : 1 ≤ d) {M : xM} (x1 : Int64) (hT : TR M) : Sp (fX6_named d) [.ref 0, .long x1] M (dt (some (.int (sX6_named M x1))) M) := by
  refine Sp.of pn_X6 (Nat.le_of_ble_eq_true rfl) (fun h => Bool.noConfusion h) ?_
  have loop : ∀ (n i : Nat) , i + n = 16 → AW (fX6_named d) 11 [(3, .int (nI i)), (0, .ref 0), (1, .long x1)] [] M 0 0 (dt (some (.int (lsd (nmR M x1) (-4) n i))) M) := by
    intro n
    induction n with
    | zero =>
      intro i  hi 
      refine aw_iload_n dX6_named_11 0 rfl ?_
      refine aw_bipush (v := 16) dX6_named_12 (by decide) ?_
      refine aw_icmp_geN i 16 36 dX6_named_14 (by decide) rfl rfl (by omega) (by omega) (fun c1 => ?_) (fun c1 => absurd (by omega) c1)
      refine aw_bipush (v := -4) dX6_named_36 (by decide) ?_
      refine aw_iret dX6_named_38 rfl (Nat.zero_le _) (Nat.zero_le _) ?_
      exact ⟨rfl, rfl⟩
    | succ n ih =>
      intro i  hi 
      refine aw_iload_n dX6_named_11 0 rfl ?_
      refine aw_bipush (v := 16) dX6_named_12 (by decide) ?_
      refine aw_icmp_geN i 16 36 dX6_named_14 (by decide) rfl rfl (by omega) (by omega) (fun c1 => absurd c1 (by omega)) (fun c1 => ?_)
      refine aw_aload_n dX6_named_17 1 rfl ?_
      refine aw_getR (b := 18) dX6_named_18 fl_X6_66 rfl (hT.s 0 (by decide)) (hT.n 0 (by decide)) (hT.r 32) ?_
      refine aw_iload_n dX6_named_21 0 rfl ?_
      refine aw_laldN i dX6_named_22 (hT.s 18 (by decide)) (hT.n 18 (by decide)) rfl (by omega) (by first | decide | omega) ?_
      refine aw_lload_n dX6_named_23 2 rfl ?_
      refine aw_lne 30 dX6_named_24 dX6_named_25 (by decide) (fun c2 => ?_) (fun c2 => ?_)
      · refine aw_iincN i 1 [(3, .int (nI (i + 1))), (0, .ref 0), (1, .long x1)] dX6_named_30 0 rfl rfl rfl (Nat.le_of_ble_eq_true rfl) rfl ?_
        refine aw_goto 11 dX6_named_33 (by decide) ?_
        rw [lsd_f n (show nmR M x1 i = false from decide_eq_false c2)]
        exact ih (i + 1) (by omega)
      · refine aw_iload_n dX6_named_28 0 rfl ?_
        refine aw_iret dX6_named_29 rfl (Nat.zero_le _) (Nat.zero_le _) ?_
        rw [lsd_t n (show nmR M x1 i = true from decide_eq_true c2)]
        exact ⟨rfl, rfl⟩
  refine aw_lload_n dX6_named_0 1 rfl ?_
  refine aw_callSi [.long x1] [] (sp_X6_isWord (d := d - 1) (by omega) x1 ) dX6_named_1 ml_X6_147 sm_X6_isWord rfl (dl1 (d := d) (by omega)) rfl rfl (Nat.le_of_ble_eq_true rfl) rfl rfl (Nat.zero_le _) (Nat.zero_le _) ?_
  refine aw_if_ne 9 dX6_named_4 (by decide) (fun c1 => ?_) (fun c1 => ?_)
  · refine aw_iconst (v := 0) dX6_named_9 (by decide) ?_
    refine aw_istore_n [(3, .int 0), (0, .ref 0), (1, .long x1)] dX6_named_10 (Nat.le_of_ble_eq_true rfl) rfl ?_
    rw [show sX6_named M x1 = lsd (nmR M x1) (-4) 16 0 by unfold sX6_named; rw [if_neg c1]]
    exact loop 16 0 (by omega)
  · refine aw_iconst (v := -1) dX6_named_7 (by decide) ?_
    refine aw_iret dX6_named_8 rfl (Nat.zero_le _) (Nat.zero_le _) ?_
    exact ⟨congrArg (fun z => some (Value.int z)) (show sX6_named M x1 = -1 by unfold sX6_named; rw [if_pos c1]).symm, rfl⟩
