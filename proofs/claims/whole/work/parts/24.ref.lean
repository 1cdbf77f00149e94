-- THE REFERENCE: methods without loops
/-- every row's size is at most 12 -/
def LenR (M : xM) : Prop := ∀ t, t < 24 → ∃ z, z ≤ 12 ∧ mI M 2 t = nI z
theorem vp_up {x : Int32} {n m : Nat} (h : vp_in x n) (hm : n ≤ m) : vp_in x m := by
  rw [vp_in_iff] at h ⊢
  omega
theorem thing_vp {x : Int32} (h : ¬ bz (sX6_isThing x.toInt64) = 0) : vp_in x 24 := by
  have h := bz_n0.mp h
  unfold sX6_isThing sX6_isIn at h
  by_cases h1 : x.toInt64 < 0
  · rw [if_pos h1] at h; cases h
  · by_cases h2 : 11 < x.toInt64
    · rw [if_neg h1, if_pos h2] at h; cases h
    · have a1 : ¬ x.toInt64.toInt < (0 : Int) := fun z => h1 (Int64.lt_iff_toInt_lt.mpr z)
      have a2 : ¬ (11 : Int) < x.toInt64.toInt := fun z => h2 (Int64.lt_iff_toInt_lt.mpr z)
      rw [Int32.toInt_toInt64] at a1 a2
      rw [vp_in_iff]
      omega
theorem thingL_vp {x : Int64} (h : ¬ bz (sX6_isThing x) = 0) : vp_in x.toInt32 24 := by
  have h := bz_n0.mp h
  unfold sX6_isThing sX6_isIn at h
  by_cases h1 : x < 0
  · rw [if_pos h1] at h; cases h
  · by_cases h2 : 11 < x
    · rw [if_neg h1, if_pos h2] at h; cases h
    · have a1 : ¬ x.toInt < (0 : Int) := fun z => h1 (Int64.lt_iff_toInt_lt.mpr z)
      have a2 : ¬ (11 : Int) < x.toInt := fun z => h2 (Int64.lt_iff_toInt_lt.mpr z)
      rw [vp_in_iff, Int64.toInt_toInt32, Int.bmod_eq_of_le (by omega) (by omega)]
      omega
def sX6_isPlain (M : xM) (x1 : Int32) : Bool := (if 8 ≤ (mI M 1 x1.toNatClampNeg) then false else true)
theorem sp_X6_isPlain {d : Nat} (hd : 0 ≤ d) {M : xM} (x1 : Int32) (hT : TR M) (hx1 : vp_in x1 24) : Sp (fX6_isPlain d) [.ref 0, .int x1] M (dt (some (.int (bz (sX6_isPlain M x1)))) (M)) := by
  refine Sp.of pn_X6 (Nat.le_of_ble_eq_true rfl) (fun h => Bool.noConfusion h) ?_
  refine aw_aload_n dX6_isPlain_0 0 rfl ?_
  refine aw_getR (b := 1) dX6_isPlain_1 fl_X6_7 rfl (hT.s 0 (by decide)) (hT.n 0 (by decide)) (hT.r 0) ?_
  refine aw_iload_n dX6_isPlain_4 1 rfl ?_
  refine aw_iald dX6_isPlain_5 (hT.s 1 (by decide)) (hT.n 1 (by decide)) hx1 ?_
  refine aw_bipush (v := 8) dX6_isPlain_6 (by decide) ?_
  refine aw_icmp_ge 15 dX6_isPlain_8 (by decide) (fun c1 => ?_) (fun c1 => ?_)
  · refine aw_iconst (v := 0) dX6_isPlain_15 (by decide) ?_
    refine aw_zret dX6_isPlain_16 rfl rfl (Nat.zero_le _) (Nat.zero_le _) ?_
    exact ⟨congrArg (fun z => some (Value.int (bz z))) (show sX6_isPlain M x1 = false by unfold sX6_isPlain; rw [if_pos c1]).symm, rfl⟩
  · refine aw_iconst (v := 1) dX6_isPlain_11 (by decide) ?_
    refine aw_goto 16 dX6_isPlain_12 (by decide) ?_
    refine aw_zret dX6_isPlain_16 rfl rfl (Nat.zero_le _) (Nat.zero_le _) ?_
    exact ⟨congrArg (fun z => some (Value.int (bz z))) (show sX6_isPlain M x1 = true by unfold sX6_isPlain; rw [if_neg c1]).symm, rfl⟩
def sX6_isRow (M : xM) (x1 : Int32) : Bool := (if (mI M 1 x1.toNatClampNeg) < 0 then false else (if 14 ≤ (mI M 1 x1.toNatClampNeg) then false else true))
theorem sp_X6_isRow {d : Nat} (hd : 0 ≤ d) {M : xM} (x1 : Int32) (hT : TR M) (hx1 : vp_in x1 24) : Sp (fX6_isRow d) [.ref 0, .int x1] M (dt (some (.int (bz (sX6_isRow M x1)))) (M)) := by
  refine Sp.of pn_X6 (Nat.le_of_ble_eq_true rfl) (fun h => Bool.noConfusion h) ?_
  refine aw_aload_n dX6_isRow_0 0 rfl ?_
  refine aw_getR (b := 1) dX6_isRow_1 fl_X6_7 rfl (hT.s 0 (by decide)) (hT.n 0 (by decide)) (hT.r 0) ?_
  refine aw_iload_n dX6_isRow_4 1 rfl ?_
  refine aw_iald dX6_isRow_5 (hT.s 1 (by decide)) (hT.n 1 (by decide)) hx1 ?_
  refine aw_if_lt 24 dX6_isRow_6 (by decide) (fun c1 => ?_) (fun c1 => ?_)
  · refine aw_iconst (v := 0) dX6_isRow_24 (by decide) ?_
    refine aw_zret dX6_isRow_25 rfl rfl (Nat.zero_le _) (Nat.zero_le _) ?_
    exact ⟨congrArg (fun z => some (Value.int (bz z))) (show sX6_isRow M x1 = false by unfold sX6_isRow; rw [if_pos c1]).symm, rfl⟩
  · refine aw_aload_n dX6_isRow_9 0 rfl ?_
    refine aw_getR (b := 1) dX6_isRow_10 fl_X6_7 rfl (hT.s 0 (by decide)) (hT.n 0 (by decide)) (hT.r 0) ?_
    refine aw_iload_n dX6_isRow_13 1 rfl ?_
    refine aw_iald dX6_isRow_14 (hT.s 1 (by decide)) (hT.n 1 (by decide)) hx1 ?_
    refine aw_bipush (v := 14) dX6_isRow_15 (by decide) ?_
    refine aw_icmp_ge 24 dX6_isRow_17 (by decide) (fun c2 => ?_) (fun c2 => ?_)
    · refine aw_iconst (v := 0) dX6_isRow_24 (by decide) ?_
      refine aw_zret dX6_isRow_25 rfl rfl (Nat.zero_le _) (Nat.zero_le _) ?_
      exact ⟨congrArg (fun z => some (Value.int (bz z))) (show sX6_isRow M x1 = false by unfold sX6_isRow; rw [if_neg c1, if_pos c2]).symm, rfl⟩
    · refine aw_iconst (v := 1) dX6_isRow_20 (by decide) ?_
      refine aw_goto 25 dX6_isRow_21 (by decide) ?_
      refine aw_zret dX6_isRow_25 rfl rfl (Nat.zero_le _) (Nat.zero_le _) ?_
      exact ⟨congrArg (fun z => some (Value.int (bz z))) (show sX6_isRow M x1 = true by unfold sX6_isRow; rw [if_neg c1, if_neg c2]).symm, rfl⟩
def sX6_refusal (M : xM) (x1 : Int32) : Int32 := (if 0 ≤ (mI M 1 x1.toNatClampNeg) then (if (mI M 1 x1.toNatClampNeg) ≤ 13 then 0 else -6) else -5)
theorem sp_X6_refusal {d : Nat} (hd : 0 ≤ d) {M : xM} (x1 : Int32) (hT : TR M) (hx1 : vp_in x1 24) : Sp (fX6_refusal d) [.ref 0, .int x1] M (dt (some (.int (sX6_refusal M x1))) (M)) := by
  refine Sp.of pn_X6 (Nat.le_of_ble_eq_true rfl) (fun h => Bool.noConfusion h) ?_
  refine aw_aload_n dX6_refusal_0 0 rfl ?_
  refine aw_getR (b := 1) dX6_refusal_1 fl_X6_7 rfl (hT.s 0 (by decide)) (hT.n 0 (by decide)) (hT.r 0) ?_
  refine aw_iload_n dX6_refusal_4 1 rfl ?_
  refine aw_iald dX6_refusal_5 (hT.s 1 (by decide)) (hT.n 1 (by decide)) hx1 ?_
  refine aw_if_ge 14 dX6_refusal_6 (by decide) (fun c1 => ?_) (fun c1 => ?_)
  · refine aw_aload_n dX6_refusal_14 0 rfl ?_
    refine aw_getR (b := 1) dX6_refusal_15 fl_X6_7 rfl (hT.s 0 (by decide)) (hT.n 0 (by decide)) (hT.r 0) ?_
    refine aw_iload_n dX6_refusal_18 1 rfl ?_
    refine aw_iald dX6_refusal_19 (hT.s 1 (by decide)) (hT.n 1 (by decide)) hx1 ?_
    refine aw_bipush (v := 13) dX6_refusal_20 (by decide) ?_
    refine aw_icmp_le 30 dX6_refusal_22 (by decide) (fun c2 => ?_) (fun c2 => ?_)
    · refine aw_iconst (v := 0) dX6_refusal_30 (by decide) ?_
      refine aw_iret dX6_refusal_31 rfl (Nat.zero_le _) (Nat.zero_le _) ?_
      exact ⟨congrArg (fun z => some (Value.int z)) (show sX6_refusal M x1 = 0 by unfold sX6_refusal; rw [if_pos c1, if_pos c2]).symm, rfl⟩
    · refine aw_bipush (v := -6) dX6_refusal_25 (by decide) ?_
      refine aw_goto 31 dX6_refusal_27 (by decide) ?_
      refine aw_iret dX6_refusal_31 rfl (Nat.zero_le _) (Nat.zero_le _) ?_
      exact ⟨congrArg (fun z => some (Value.int z)) (show sX6_refusal M x1 = -6 by unfold sX6_refusal; rw [if_pos c1, if_neg c2]).symm, rfl⟩
  · refine aw_bipush (v := -5) dX6_refusal_9 (by decide) ?_
    refine aw_goto 31 dX6_refusal_11 (by decide) ?_
    refine aw_iret dX6_refusal_31 rfl (Nat.zero_le _) (Nat.zero_le _) ?_
    exact ⟨congrArg (fun z => some (Value.int z)) (show sX6_refusal M x1 = -5 by unfold sX6_refusal; rw [if_neg c1]).symm, rfl⟩
def sX6_refusalOfTwo (M : xM) (x1 : Int32) (x2 : Int32) : Int32 := (if (mI M 1 x1.toNatClampNeg) < 0 then -5 else (if 0 ≤ (mI M 1 x2.toNatClampNeg) then (if 13 < (mI M 1 x1.toNatClampNeg) then -6 else (if (mI M 1 x2.toNatClampNeg) ≤ 13 then 0 else -6)) else -5))
theorem sp_X6_refusalOfTwo {d : Nat} (hd : 0 ≤ d) {M : xM} (x1 : Int32) (x2 : Int32) (hT : TR M) (hx1 : vp_in x1 24) (hx2 : vp_in x2 24) : Sp (fX6_refusalOfTwo d) [.ref 0, .int x1, .int x2] M (dt (some (.int (sX6_refusalOfTwo M x1 x2))) (M)) := by
  refine Sp.of pn_X6 (Nat.le_of_ble_eq_true rfl) (fun h => Bool.noConfusion h) ?_
  refine aw_aload_n dX6_refusalOfTwo_0 0 rfl ?_
  refine aw_getR (b := 1) dX6_refusalOfTwo_1 fl_X6_7 rfl (hT.s 0 (by decide)) (hT.n 0 (by decide)) (hT.r 0) ?_
  refine aw_iload_n dX6_refusalOfTwo_4 1 rfl ?_
  refine aw_iald dX6_refusalOfTwo_5 (hT.s 1 (by decide)) (hT.n 1 (by decide)) hx1 ?_
  refine aw_if_lt 18 dX6_refusalOfTwo_6 (by decide) (fun c1 => ?_) (fun c1 => ?_)
  · refine aw_bipush (v := -5) dX6_refusalOfTwo_18 (by decide) ?_
    refine aw_iret dX6_refusalOfTwo_20 rfl (Nat.zero_le _) (Nat.zero_le _) ?_
    exact ⟨congrArg (fun z => some (Value.int z)) (show sX6_refusalOfTwo M x1 x2 = -5 by unfold sX6_refusalOfTwo; rw [if_pos c1]).symm, rfl⟩
  · refine aw_aload_n dX6_refusalOfTwo_9 0 rfl ?_
    refine aw_getR (b := 1) dX6_refusalOfTwo_10 fl_X6_7 rfl (hT.s 0 (by decide)) (hT.n 0 (by decide)) (hT.r 0) ?_
    refine aw_iload_n dX6_refusalOfTwo_13 2 rfl ?_
    refine aw_iald dX6_refusalOfTwo_14 (hT.s 1 (by decide)) (hT.n 1 (by decide)) hx2 ?_
    refine aw_if_ge 21 dX6_refusalOfTwo_15 (by decide) (fun c2 => ?_) (fun c2 => ?_)
    · refine aw_aload_n dX6_refusalOfTwo_21 0 rfl ?_
      refine aw_getR (b := 1) dX6_refusalOfTwo_22 fl_X6_7 rfl (hT.s 0 (by decide)) (hT.n 0 (by decide)) (hT.r 0) ?_
      refine aw_iload_n dX6_refusalOfTwo_25 1 rfl ?_
      refine aw_iald dX6_refusalOfTwo_26 (hT.s 1 (by decide)) (hT.n 1 (by decide)) hx1 ?_
      refine aw_bipush (v := 13) dX6_refusalOfTwo_27 (by decide) ?_
      refine aw_icmp_gt 43 dX6_refusalOfTwo_29 (by decide) (fun c3 => ?_) (fun c3 => ?_)
      · refine aw_bipush (v := -6) dX6_refusalOfTwo_43 (by decide) ?_
        refine aw_goto 49 dX6_refusalOfTwo_45 (by decide) ?_
        refine aw_iret dX6_refusalOfTwo_49 rfl (Nat.zero_le _) (Nat.zero_le _) ?_
        exact ⟨congrArg (fun z => some (Value.int z)) (show sX6_refusalOfTwo M x1 x2 = -6 by unfold sX6_refusalOfTwo; rw [if_neg c1, if_pos c2, if_pos c3]).symm, rfl⟩
      · refine aw_aload_n dX6_refusalOfTwo_32 0 rfl ?_
        refine aw_getR (b := 1) dX6_refusalOfTwo_33 fl_X6_7 rfl (hT.s 0 (by decide)) (hT.n 0 (by decide)) (hT.r 0) ?_
        refine aw_iload_n dX6_refusalOfTwo_36 2 rfl ?_
        refine aw_iald dX6_refusalOfTwo_37 (hT.s 1 (by decide)) (hT.n 1 (by decide)) hx2 ?_
        refine aw_bipush (v := 13) dX6_refusalOfTwo_38 (by decide) ?_
        refine aw_icmp_le 48 dX6_refusalOfTwo_40 (by decide) (fun c4 => ?_) (fun c4 => ?_)
        · refine aw_iconst (v := 0) dX6_refusalOfTwo_48 (by decide) ?_
          refine aw_iret dX6_refusalOfTwo_49 rfl (Nat.zero_le _) (Nat.zero_le _) ?_
          exact ⟨congrArg (fun z => some (Value.int z)) (show sX6_refusalOfTwo M x1 x2 = 0 by unfold sX6_refusalOfTwo; rw [if_neg c1, if_pos c2, if_neg c3, if_pos c4]).symm, rfl⟩
        · refine aw_bipush (v := -6) dX6_refusalOfTwo_43 (by decide) ?_
          refine aw_goto 49 dX6_refusalOfTwo_45 (by decide) ?_
          refine aw_iret dX6_refusalOfTwo_49 rfl (Nat.zero_le _) (Nat.zero_le _) ?_
          exact ⟨congrArg (fun z => some (Value.int z)) (show sX6_refusalOfTwo M x1 x2 = -6 by unfold sX6_refusalOfTwo; rw [if_neg c1, if_pos c2, if_neg c3, if_neg c4]).symm, rfl⟩
    · refine aw_bipush (v := -5) dX6_refusalOfTwo_18 (by decide) ?_
      refine aw_iret dX6_refusalOfTwo_20 rfl (Nat.zero_le _) (Nat.zero_le _) ?_
      exact ⟨congrArg (fun z => some (Value.int z)) (show sX6_refusalOfTwo M x1 x2 = -5 by unfold sX6_refusalOfTwo; rw [if_neg c1, if_neg c2]).symm, rfl⟩
def sX6_isPlace (M : xM) (x1 : Int32) (x2 : Int64) : Bool := (if x2 < 0 then false else (if (Int32.toInt64 (mI M 2 x1.toNatClampNeg)) ≤ x2 then false else true))
theorem sp_X6_isPlace {d : Nat} (hd : 0 ≤ d) {M : xM} (x1 : Int32) (x2 : Int64) (hT : TR M) (hx1 : vp_in x1 24) : Sp (fX6_isPlace d) [.ref 0, .int x1, .long x2] M (dt (some (.int (bz (sX6_isPlace M x1 x2)))) (M)) := by
  refine Sp.of pn_X6 (Nat.le_of_ble_eq_true rfl) (fun h => Bool.noConfusion h) ?_
  refine aw_lload_n dX6_isPlace_0 2 rfl ?_
  refine aw_lconst (v := 0) dX6_isPlace_1 (by decide) ?_
  refine aw_llt 22 dX6_isPlace_2 dX6_isPlace_3 (by decide) (fun c1 => ?_) (fun c1 => ?_)
  · refine aw_iconst (v := 0) dX6_isPlace_22 (by decide) ?_
    refine aw_zret dX6_isPlace_23 rfl rfl (Nat.zero_le _) (Nat.zero_le _) ?_
    exact ⟨congrArg (fun z => some (Value.int (bz z))) (show sX6_isPlace M x1 x2 = false by unfold sX6_isPlace; rw [if_pos c1]).symm, rfl⟩
  · refine aw_lload_n dX6_isPlace_6 2 rfl ?_
    refine aw_aload_n dX6_isPlace_7 0 rfl ?_
    refine aw_getR (b := 2) dX6_isPlace_8 fl_X6_13 rfl (hT.s 0 (by decide)) (hT.n 0 (by decide)) (hT.r 1) ?_
    refine aw_iload_n dX6_isPlace_11 1 rfl ?_
    refine aw_iald dX6_isPlace_12 (hT.s 2 (by decide)) (hT.n 2 (by decide)) hx1 ?_
    refine aw_i2l dX6_isPlace_13 ?_
    refine aw_lge 22 dX6_isPlace_14 dX6_isPlace_15 (by decide) (fun c2 => ?_) (fun c2 => ?_)
    · refine aw_iconst (v := 0) dX6_isPlace_22 (by decide) ?_
      refine aw_zret dX6_isPlace_23 rfl rfl (Nat.zero_le _) (Nat.zero_le _) ?_
      exact ⟨congrArg (fun z => some (Value.int (bz z))) (show sX6_isPlace M x1 x2 = false by unfold sX6_isPlace; rw [if_neg c1, if_pos c2]).symm, rfl⟩
    · refine aw_iconst (v := 1) dX6_isPlace_18 (by decide) ?_
      refine aw_goto 23 dX6_isPlace_19 (by decide) ?_
      refine aw_zret dX6_isPlace_23 rfl rfl (Nat.zero_le _) (Nat.zero_le _) ?_
      exact ⟨congrArg (fun z => some (Value.int (bz z))) (show sX6_isPlace M x1 x2 = true by unfold sX6_isPlace; rw [if_neg c1, if_neg c2]).symm, rfl⟩
theorem nI_cl {x : Int32} {n : Nat} (h : vp_in x n) : x = nI x.toNatClampNeg ∧ x.toNatClampNeg < n := by
  have h2 := vp_lt h
  refine ⟨?_, h2⟩
  rw [vp_in_iff] at h
  apply Int32.toInt_inj.mp
  have e : x.toNatClampNeg = x.toInt.toNat := rfl
  have b := Int32.toInt_lt x
  rw [nI_toInt (by omega), e]
  omega
theorem place_lt {M : xM} {x p : Int32} (hZ : LenR M) (h : vp_in x 24) (hp : ¬ bz (sX6_isPlace M x p.toInt64) = 0) : ∃ z, z ≤ 12 ∧ mI M 2 x.toNatClampNeg = nI z ∧ vp_in p z := by
  obtain ⟨z, hz1, hz2⟩ := hZ _ (vp_lt h)
  refine ⟨z, hz1, hz2, ?_⟩
  have hp := bz_n0.mp hp
  unfold sX6_isPlace at hp
  by_cases h1 : p.toInt64 < 0
  · rw [if_pos h1] at hp; cases hp
  · by_cases h2 : (mI M 2 x.toNatClampNeg).toInt64 ≤ p.toInt64
    · rw [if_neg h1, if_pos h2] at hp; cases hp
    · have a1 : ¬ p.toInt64.toInt < (0 : Int) := fun z => h1 (Int64.lt_iff_toInt_lt.mpr z)
      have a2 : ¬ (mI M 2 x.toNatClampNeg).toInt64.toInt ≤ p.toInt64.toInt := fun z => h2 (Int64.le_iff_toInt_le.mpr z)
      rw [Int32.toInt_toInt64] at a1 a2
      rw [Int32.toInt_toInt64, hz2, nI_toInt (by omega)] at a2
      rw [vp_in_iff]
      omega
theorem cell_sum {x p : Int32} (h : vp_in x 24) (hp : vp_in p 12) : vp_in (12 * x + p) 288 ∧ (12 * x + p).toNatClampNeg = 12 * x.toNatClampNeg + p.toNatClampNeg := by
  obtain ⟨e1, b1⟩ := nI_cl h
  obtain ⟨e2, b2⟩ := nI_cl hp
  have e : 12 * x + p = nI (12 * x.toNatClampNeg + p.toNatClampNeg) := by
    conv => lhs; rw [e1, e2]
    rw [show (12 : Int32) = nI 12 from rfl, show nI 12 * nI x.toNatClampNeg = nI (12 * x.toNatClampNeg) from (Int32.ofNat_mul 12 _).symm, nI_add]
  rw [e]
  exact ⟨vp_in_nI (by omega) (by decide), nI_clamp (by omega)⟩
theorem cell_vp {M : xM} {x p : Int32} (hZ : LenR M) (h : vp_in x 24) (hp : ¬ bz (sX6_isPlace M x p.toInt64) = 0) : vp_in (12 * x + p) 288 := by
  obtain ⟨z, h1, -, h3⟩ := place_lt hZ h hp
  exact (cell_sum h (vp_up h3 h1)).1
theorem refusal_0 {M : xM} {x : Int32} (h : ¬ sX6_refusal M x = 0) : ¬ 0 ≤ sX6_refusal M x := by
  unfold sX6_refusal at h ⊢
  split
  · split
    · rename_i h1 h2
      rw [if_pos h1, if_pos h2] at h
      exact absurd rfl h
    · decide
  · decide
def sX6_tells (x1 : Int32) (x2 : Int32) : Int32 := x1
def tX6_tells (M : xM) (x1 : Int32) (x2 : Int32) : xM := (stI (stI M 0 9 x1) 0 10 x2)
theorem sT_X6_tells (M : xM) (x1 : Int32) (x2 : Int32) : sT M (tX6_tells M x1 x2) := (((sT.rf M).tr (sT.I _ _ _ _)).tr (sT.I _ _ _ _))
theorem sp_X6_tells {d : Nat} (hd : 0 ≤ d) {M : xM} (x1 : Int32) (x2 : Int32) (hT : TR M)  : Sp (fX6_tells d) [.ref 0, .int x1, .int x2] M (dt (some (.int (sX6_tells x1 x2))) (tX6_tells M x1 x2)) := by
  refine Sp.of pn_X6 (Nat.le_of_ble_eq_true rfl) (fun h => Bool.noConfusion h) ?_
  refine aw_aload_n dX6_tells_0 0 rfl ?_
  refine aw_iload_n dX6_tells_1 1 rfl ?_
  refine aw_putI dX6_tells_2 fl_X6_138 (Or.inl rfl) (hT.s 0 (by decide)) (hT.n 0 (by decide)) ?_
  refine aw_aload_n dX6_tells_5 0 rfl ?_
  refine aw_iload_n dX6_tells_6 2 rfl ?_
  refine aw_putI dX6_tells_7 fl_X6_29 (Or.inl rfl) (hT.s 0 (by decide)) (hT.n 0 (by decide)) ?_
  refine aw_iload_n dX6_tells_10 1 rfl ?_
  refine aw_iret dX6_tells_11 rfl (Nat.zero_le _) (Nat.zero_le _) ?_
  exact ⟨congrArg (fun z => some (Value.int z)) (rfl : x1 = sX6_tells x1 x2), (rfl : (stI (stI M 0 9 x1) 0 10 x2) = tX6_tells M x1 x2)⟩
def sX6_counts (x1 : Int32) : Int32 := (if (-5) < x1 then x1 else (if x1 < (-9) then x1 else x1))
def tX6_counts (M : xM) (x1 : Int32) : xM := (if (-5) < x1 then M else (if x1 < (-9) then M else (stI M 7 (((-5) - x1).toNatClampNeg) ((mI M 7 (((-5) - x1).toNatClampNeg)) + 1))))
theorem sT_X6_counts (M : xM) (x1 : Int32) : sT M (tX6_counts M x1) := (sT.ite (sT.rf M) (sT.ite (sT.rf M) ((sT.rf M).tr (sT.I _ _ _ _))))
theorem sp_X6_counts {d : Nat} (hd : 0 ≤ d) {M : xM} (x1 : Int32) (hT : TR M)  : Sp (fX6_counts d) [.ref 0, .int x1] M (dt (some (.int (sX6_counts x1))) (tX6_counts M x1)) := by
  refine Sp.of pn_X6 (Nat.le_of_ble_eq_true rfl) (fun h => Bool.noConfusion h) ?_
  refine aw_iload_n dX6_counts_0 1 rfl ?_
  refine aw_bipush (v := -5) dX6_counts_1 (by decide) ?_
  refine aw_icmp_gt 25 dX6_counts_3 (by decide) (fun c1 => ?_) (fun c1 => ?_)
  · refine aw_iload_n dX6_counts_25 1 rfl ?_
    refine aw_iret dX6_counts_26 rfl (Nat.zero_le _) (Nat.zero_le _) ?_
    exact ⟨congrArg (fun z => some (Value.int z)) (show sX6_counts x1 = x1 by unfold sX6_counts; rw [if_pos c1]).symm, (show tX6_counts M x1 = M by unfold tX6_counts; rw [if_pos c1]).symm⟩
  · refine aw_iload_n dX6_counts_6 1 rfl ?_
    refine aw_bipush (v := -9) dX6_counts_7 (by decide) ?_
    refine aw_icmp_lt 25 dX6_counts_9 (by decide) (fun c2 => ?_) (fun c2 => ?_)
    · refine aw_iload_n dX6_counts_25 1 rfl ?_
      refine aw_iret dX6_counts_26 rfl (Nat.zero_le _) (Nat.zero_le _) ?_
      exact ⟨congrArg (fun z => some (Value.int z)) (show sX6_counts x1 = x1 by unfold sX6_counts; rw [if_neg c1, if_pos c2]).symm, (show tX6_counts M x1 = M by unfold tX6_counts; rw [if_neg c1, if_pos c2]).symm⟩
    · refine aw_aload_n dX6_counts_12 0 rfl ?_
      refine aw_getR (b := 7) dX6_counts_13 fl_X6_33 rfl (hT.s 0 (by decide)) (hT.n 0 (by decide)) (hT.r 11) ?_
      refine aw_bipush (v := -5) dX6_counts_16 (by decide) ?_
      refine aw_iload_n dX6_counts_18 1 rfl ?_
      refine aw_isub dX6_counts_19 ?_
      refine aw_dup2_11 dX6_counts_20 rfl rfl ?_
      refine aw_iald dX6_counts_21 (hT.s 7 (by decide)) (hT.n 7 (by decide)) (cnt_vp c1 c2) ?_
      refine aw_iconst (v := 1) dX6_counts_22 (by decide) ?_
      refine aw_iadd dX6_counts_23 ?_
      refine aw_iast dX6_counts_24 (hT.s 7 (by decide)) (hT.n 7 (by decide)) (cnt_vp c1 c2) ?_
      refine aw_iload_n dX6_counts_25 1 rfl ?_
      refine aw_iret dX6_counts_26 rfl (Nat.zero_le _) (Nat.zero_le _) ?_
      exact ⟨congrArg (fun z => some (Value.int z)) (show sX6_counts x1 = x1 by unfold sX6_counts; rw [if_neg c1, if_neg c2]).symm, (show tX6_counts M x1 = (stI M 7 (((-5) - x1).toNatClampNeg) ((mI M 7 (((-5) - x1).toNatClampNeg)) + 1)) by unfold tX6_counts; rw [if_neg c1, if_neg c2]).symm⟩
def sX6_kind (M : xM) (x1 : Int32) : Int32 := (if (bz (sX6_isThing (Int32.toInt64 x1))) = 0 then -1 else (if 0 ≤ (mI M 1 x1.toNatClampNeg) then mI M 1 x1.toNatClampNeg else -5))
theorem sp_X6_kind {d : Nat} (hd : 2 ≤ d) {M : xM} (x1 : Int32) (hT : TR M)  : Sp (fX6_kind d) [.ref 0, .int x1] M (dt (some (.int (sX6_kind M x1))) (M)) := by
  refine Sp.of pn_X6 (Nat.le_of_ble_eq_true rfl) (fun h => Bool.noConfusion h) ?_
  refine aw_iload_n dX6_kind_0 1 rfl ?_
  refine aw_i2l dX6_kind_1 ?_
  refine aw_callSi [.long (Int32.toInt64 x1)] [] (sp_X6_isThing (d := d - 1) (by omega) (Int32.toInt64 x1) ) dX6_kind_2 ml_X6_159 sm_X6_isThing rfl (dl1 (d := d) (by omega)) rfl rfl (Nat.le_of_ble_eq_true rfl) rfl rfl (Nat.zero_le _) (Nat.zero_le _) ?_
  refine aw_if_ne 10 dX6_kind_5 (by decide) (fun c1 => ?_) (fun c1 => ?_)
  · refine aw_aload_n dX6_kind_10 0 rfl ?_
    refine aw_getR (b := 1) dX6_kind_11 fl_X6_7 rfl (hT.s 0 (by decide)) (hT.n 0 (by decide)) (hT.r 0) ?_
    refine aw_iload_n dX6_kind_14 1 rfl ?_
    refine aw_iald dX6_kind_15 (hT.s 1 (by decide)) (hT.n 1 (by decide)) (thing_vp c1) ?_
    refine aw_if_ge 24 dX6_kind_16 (by decide) (fun c2 => ?_) (fun c2 => ?_)
    · refine aw_aload_n dX6_kind_24 0 rfl ?_
      refine aw_getR (b := 1) dX6_kind_25 fl_X6_7 rfl (hT.s 0 (by decide)) (hT.n 0 (by decide)) (hT.r 0) ?_
      refine aw_iload_n dX6_kind_28 1 rfl ?_
      refine aw_iald dX6_kind_29 (hT.s 1 (by decide)) (hT.n 1 (by decide)) (thing_vp c1) ?_
      refine aw_iret dX6_kind_30 rfl (Nat.zero_le _) (Nat.zero_le _) ?_
      exact ⟨congrArg (fun z => some (Value.int z)) (show sX6_kind M x1 = mI M 1 x1.toNatClampNeg by unfold sX6_kind; rw [if_neg c1, if_pos c2]).symm, rfl⟩
    · refine aw_bipush (v := -5) dX6_kind_19 (by decide) ?_
      refine aw_goto 30 dX6_kind_21 (by decide) ?_
      refine aw_iret dX6_kind_30 rfl (Nat.zero_le _) (Nat.zero_le _) ?_
      exact ⟨congrArg (fun z => some (Value.int z)) (show sX6_kind M x1 = -5 by unfold sX6_kind; rw [if_neg c1, if_neg c2]).symm, rfl⟩
  · refine aw_iconst (v := -1) dX6_kind_8 (by decide) ?_
    refine aw_iret dX6_kind_9 rfl (Nat.zero_le _) (Nat.zero_le _) ?_
    exact ⟨congrArg (fun z => some (Value.int z)) (show sX6_kind M x1 = -1 by unfold sX6_kind; rw [if_pos c1]).symm, rfl⟩
def sX6_size (M : xM) (x1 : Int32) : Int32 := (if (bz (sX6_isThing (Int32.toInt64 x1))) = 0 then -1 else (if 0 ≤ (sX6_refusal M x1) then mI M 2 x1.toNatClampNeg else sX6_refusal M x1))
theorem sp_X6_size {d : Nat} (hd : 2 ≤ d) {M : xM} (x1 : Int32) (hT : TR M)  : Sp (fX6_size d) [.ref 0, .int x1] M (dt (some (.int (sX6_size M x1))) (M)) := by
  refine Sp.of pn_X6 (Nat.le_of_ble_eq_true rfl) (fun h => Bool.noConfusion h) ?_
  refine aw_iload_n dX6_size_0 1 rfl ?_
  refine aw_i2l dX6_size_1 ?_
  refine aw_callSi [.long (Int32.toInt64 x1)] [] (sp_X6_isThing (d := d - 1) (by omega) (Int32.toInt64 x1) ) dX6_size_2 ml_X6_159 sm_X6_isThing rfl (dl1 (d := d) (by omega)) rfl rfl (Nat.le_of_ble_eq_true rfl) rfl rfl (Nat.zero_le _) (Nat.zero_le _) ?_
  refine aw_if_ne 10 dX6_size_5 (by decide) (fun c1 => ?_) (fun c1 => ?_)
  · refine aw_aload_n dX6_size_10 0 rfl ?_
    refine aw_iload_n dX6_size_11 1 rfl ?_
    refine aw_callVi [.int x1] [] (sp_X6_refusal (d := d - 1) (by omega) x1 hT (thing_vp c1)) dX6_size_12 ml_X6_162 im_X6_refusal (hT.s 0 (by decide)) (hT.n 0 (by decide)) rfl rfl (dl1 (d := d) (by omega)) rfl rfl (Nat.le_of_ble_eq_true rfl) rfl rfl (Nat.zero_le _) (Nat.zero_le _) ?_
    refine aw_istore_n [(2, .int (sX6_refusal M x1)), (0, .ref 0), (1, .int x1)] dX6_size_15 (Nat.le_of_ble_eq_true rfl) rfl ?_
    refine aw_iload_n dX6_size_16 0 rfl ?_
    refine aw_if_ge 24 dX6_size_17 (by decide) (fun c2 => ?_) (fun c2 => ?_)
    · refine aw_aload_n dX6_size_24 1 rfl ?_
      refine aw_getR (b := 2) dX6_size_25 fl_X6_13 rfl (hT.s 0 (by decide)) (hT.n 0 (by decide)) (hT.r 1) ?_
      refine aw_iload_n dX6_size_28 2 rfl ?_
      refine aw_iald dX6_size_29 (hT.s 2 (by decide)) (hT.n 2 (by decide)) (thing_vp c1) ?_
      refine aw_iret dX6_size_30 rfl (Nat.zero_le _) (Nat.zero_le _) ?_
      exact ⟨congrArg (fun z => some (Value.int z)) (show sX6_size M x1 = mI M 2 x1.toNatClampNeg by unfold sX6_size; rw [if_neg c1, if_pos c2]).symm, rfl⟩
    · refine aw_iload_n dX6_size_20 0 rfl ?_
      refine aw_goto 30 dX6_size_21 (by decide) ?_
      refine aw_iret dX6_size_30 rfl (Nat.zero_le _) (Nat.zero_le _) ?_
      exact ⟨congrArg (fun z => some (Value.int z)) (show sX6_size M x1 = sX6_refusal M x1 by unfold sX6_size; rw [if_neg c1, if_neg c2]).symm, rfl⟩
  · refine aw_iconst (v := -1) dX6_size_8 (by decide) ?_
    refine aw_iret dX6_size_9 rfl (Nat.zero_le _) (Nat.zero_le _) ?_
    exact ⟨congrArg (fun z => some (Value.int z)) (show sX6_size M x1 = -1 by unfold sX6_size; rw [if_pos c1]).symm, rfl⟩
def sX6_went (M : xM) (x1 : Int32) : Int32 := (if x1 = 0 then mI M 0 9 else (if x1 = 1 then mI M 0 10 else -1))
theorem sp_X6_went {d : Nat} (hd : 0 ≤ d) {M : xM} (x1 : Int32) (hT : TR M)  : Sp (fX6_went d) [.ref 0, .int x1] M (dt (some (.int (sX6_went M x1))) (M)) := by
  refine Sp.of pn_X6 (Nat.le_of_ble_eq_true rfl) (fun h => Bool.noConfusion h) ?_
  refine aw_iload_n dX6_went_0 1 rfl ?_
  refine aw_if_ne 11 dX6_went_1 (by decide) (fun c1 => ?_) (fun c1 => ?_)
  · refine aw_iload_n dX6_went_11 1 rfl ?_
    refine aw_iconst (v := 1) dX6_went_12 (by decide) ?_
    refine aw_icmp_ne 23 dX6_went_13 (by decide) (fun c2 => ?_) (fun c2 => ?_)
    · refine aw_iconst (v := -1) dX6_went_23 (by decide) ?_
      refine aw_iret dX6_went_24 rfl (Nat.zero_le _) (Nat.zero_le _) ?_
      exact ⟨congrArg (fun z => some (Value.int z)) (show sX6_went M x1 = -1 by unfold sX6_went; rw [if_neg c1, if_neg c2]).symm, rfl⟩
    · refine aw_aload_n dX6_went_16 0 rfl ?_
      refine aw_getI dX6_went_17 fl_X6_29 (hT.s 0 (by decide)) (hT.n 0 (by decide)) ?_
      refine aw_goto 24 dX6_went_20 (by decide) ?_
      refine aw_iret dX6_went_24 rfl (Nat.zero_le _) (Nat.zero_le _) ?_
      exact ⟨congrArg (fun z => some (Value.int z)) (show sX6_went M x1 = mI M 0 10 by unfold sX6_went; rw [if_neg c1, if_pos c2]).symm, rfl⟩
  · refine aw_aload_n dX6_went_4 0 rfl ?_
    refine aw_getI dX6_went_5 fl_X6_138 (hT.s 0 (by decide)) (hT.n 0 (by decide)) ?_
    refine aw_goto 24 dX6_went_8 (by decide) ?_
    refine aw_iret dX6_went_24 rfl (Nat.zero_le _) (Nat.zero_le _) ?_
    exact ⟨congrArg (fun z => some (Value.int z)) (show sX6_went M x1 = mI M 0 9 by unfold sX6_went; rw [if_pos c1]).symm, rfl⟩
def sX6_mode (M : xM) (x1 : Int32) : Int32 := (if (bz (sX6_isIn (Int32.toInt64 x1) 0 2)) = 0 then -1 else mI M 0 8)
def tX6_mode (M : xM) (x1 : Int32) : xM := (if (bz (sX6_isIn (Int32.toInt64 x1) 0 2)) = 0 then M else (stI M 0 8 x1))
theorem sT_X6_mode (M : xM) (x1 : Int32) : sT M (tX6_mode M x1) := (sT.ite (sT.rf M) ((sT.rf M).tr (sT.I _ _ _ _)))
theorem sp_X6_mode {d : Nat} (hd : 1 ≤ d) {M : xM} (x1 : Int32) (hT : TR M)  : Sp (fX6_mode d) [.ref 0, .int x1] M (dt (some (.int (sX6_mode M x1))) (tX6_mode M x1)) := by
  refine Sp.of pn_X6 (Nat.le_of_ble_eq_true rfl) (fun h => Bool.noConfusion h) ?_
  refine aw_iload_n dX6_mode_0 1 rfl ?_
  refine aw_i2l dX6_mode_1 ?_
  refine aw_lconst (v := 0) dX6_mode_2 (by decide) ?_
  refine aw_ldc2 dX6_mode_3 kc_X6_304 ?_
  refine aw_callSi [.long (Int32.toInt64 x1), .long 0, .long 2] [] (sp_X6_isIn (d := d - 1) (by omega) (Int32.toInt64 x1) 0 2 ) dX6_mode_6 ml_X6_73 sm_X6_isIn rfl (dl1 (d := d) (by omega)) rfl rfl (Nat.le_of_ble_eq_true rfl) rfl rfl (Nat.zero_le _) (Nat.zero_le _) ?_
  refine aw_if_ne 14 dX6_mode_9 (by decide) (fun c1 => ?_) (fun c1 => ?_)
  · refine aw_aload_n dX6_mode_14 0 rfl ?_
    refine aw_getI dX6_mode_15 fl_X6_357 (hT.s 0 (by decide)) (hT.n 0 (by decide)) ?_
    refine aw_istore_n [(2, .int (mI M 0 8)), (0, .ref 0), (1, .int x1)] dX6_mode_18 (Nat.le_of_ble_eq_true rfl) rfl ?_
    refine aw_aload_n dX6_mode_19 1 rfl ?_
    refine aw_iload_n dX6_mode_20 2 rfl ?_
    refine aw_putI dX6_mode_21 fl_X6_357 (Or.inl rfl) (hT.s 0 (by decide)) (hT.n 0 (by decide)) ?_
    refine aw_iload_n dX6_mode_24 0 rfl ?_
    refine aw_iret dX6_mode_25 rfl (Nat.zero_le _) (Nat.zero_le _) ?_
    exact ⟨congrArg (fun z => some (Value.int z)) (show sX6_mode M x1 = mI M 0 8 by unfold sX6_mode; rw [if_neg c1]).symm, (show tX6_mode M x1 = (stI M 0 8 x1) by unfold tX6_mode; rw [if_neg c1]).symm⟩
  · refine aw_iconst (v := -1) dX6_mode_12 (by decide) ?_
    refine aw_iret dX6_mode_13 rfl (Nat.zero_le _) (Nat.zero_le _) ?_
    exact ⟨congrArg (fun z => some (Value.int z)) (show sX6_mode M x1 = -1 by unfold sX6_mode; rw [if_pos c1]).symm, (show tX6_mode M x1 = M by unfold tX6_mode; rw [if_pos c1]).symm⟩
def sX6_seek (M : xM) (x1 : Int32) : Int32 := (if x1 < 0 then -1 else (if x1 ≤ (mI M 0 6) then mI M 0 7 else -1))
def tX6_seek (M : xM) (x1 : Int32) : xM := (if x1 < 0 then M else (if x1 ≤ (mI M 0 6) then (stI M 0 7 x1) else M))
theorem sT_X6_seek (M : xM) (x1 : Int32) : sT M (tX6_seek M x1) := (sT.ite (sT.rf M) (sT.ite ((sT.rf M).tr (sT.I _ _ _ _)) (sT.rf M)))
theorem sp_X6_seek {d : Nat} (hd : 0 ≤ d) {M : xM} (x1 : Int32) (hT : TR M)  : Sp (fX6_seek d) [.ref 0, .int x1] M (dt (some (.int (sX6_seek M x1))) (tX6_seek M x1)) := by
  refine Sp.of pn_X6 (Nat.le_of_ble_eq_true rfl) (fun h => Bool.noConfusion h) ?_
  refine aw_iload_n dX6_seek_0 1 rfl ?_
  refine aw_if_lt 12 dX6_seek_1 (by decide) (fun c1 => ?_) (fun c1 => ?_)
  · refine aw_iconst (v := -1) dX6_seek_12 (by decide) ?_
    refine aw_iret dX6_seek_13 rfl (Nat.zero_le _) (Nat.zero_le _) ?_
    exact ⟨congrArg (fun z => some (Value.int z)) (show sX6_seek M x1 = -1 by unfold sX6_seek; rw [if_pos c1]).symm, (show tX6_seek M x1 = M by unfold tX6_seek; rw [if_pos c1]).symm⟩
  · refine aw_iload_n dX6_seek_4 1 rfl ?_
    refine aw_aload_n dX6_seek_5 0 rfl ?_
    refine aw_getI dX6_seek_6 fl_X6_354 (hT.s 0 (by decide)) (hT.n 0 (by decide)) ?_
    refine aw_icmp_le 14 dX6_seek_9 (by decide) (fun c2 => ?_) (fun c2 => ?_)
    · refine aw_aload_n dX6_seek_14 0 rfl ?_
      refine aw_getI dX6_seek_15 fl_X6_366 (hT.s 0 (by decide)) (hT.n 0 (by decide)) ?_
      refine aw_istore_n [(2, .int (mI M 0 7)), (0, .ref 0), (1, .int x1)] dX6_seek_18 (Nat.le_of_ble_eq_true rfl) rfl ?_
      refine aw_aload_n dX6_seek_19 1 rfl ?_
      refine aw_iload_n dX6_seek_20 2 rfl ?_
      refine aw_putI dX6_seek_21 fl_X6_366 (Or.inl rfl) (hT.s 0 (by decide)) (hT.n 0 (by decide)) ?_
      refine aw_iload_n dX6_seek_24 0 rfl ?_
      refine aw_iret dX6_seek_25 rfl (Nat.zero_le _) (Nat.zero_le _) ?_
      exact ⟨congrArg (fun z => some (Value.int z)) (show sX6_seek M x1 = mI M 0 7 by unfold sX6_seek; rw [if_neg c1, if_pos c2]).symm, (show tX6_seek M x1 = (stI M 0 7 x1) by unfold tX6_seek; rw [if_neg c1, if_pos c2]).symm⟩
    · refine aw_iconst (v := -1) dX6_seek_12 (by decide) ?_
      refine aw_iret dX6_seek_13 rfl (Nat.zero_le _) (Nat.zero_le _) ?_
      exact ⟨congrArg (fun z => some (Value.int z)) (show sX6_seek M x1 = -1 by unfold sX6_seek; rw [if_neg c1, if_neg c2]).symm, (show tX6_seek M x1 = M by unfold tX6_seek; rw [if_neg c1, if_neg c2]).symm⟩
def sX6_cut (M : xM) (x1 : Int32) : Int32 := (if x1 < 0 then -1 else (if x1 ≤ (mI M 0 6) then (if (mI (stI M 0 6 x1) 0 7) ≤ x1 then (mI M 0 6) - x1 else (mI M 0 6) - x1) else -1))
def tX6_cut (M : xM) (x1 : Int32) : xM := (if x1 < 0 then M else (if x1 ≤ (mI M 0 6) then (if (mI (stI M 0 6 x1) 0 7) ≤ x1 then (stI (stI M 0 6 x1) 0 7 (mI (stI M 0 6 x1) 0 7)) else (stI (stI M 0 6 x1) 0 7 x1)) else M))
theorem sT_X6_cut (M : xM) (x1 : Int32) : sT M (tX6_cut M x1) := (sT.ite (sT.rf M) (sT.ite (sT.ite (((sT.rf M).tr (sT.I _ _ _ _)).tr (sT.I _ _ _ _)) (((sT.rf M).tr (sT.I _ _ _ _)).tr (sT.I _ _ _ _))) (sT.rf M)))
theorem sp_X6_cut {d : Nat} (hd : 0 ≤ d) {M : xM} (x1 : Int32) (hT : TR M)  : Sp (fX6_cut d) [.ref 0, .int x1] M (dt (some (.int (sX6_cut M x1))) (tX6_cut M x1)) := by
  refine Sp.of pn_X6 (Nat.le_of_ble_eq_true rfl) (fun h => Bool.noConfusion h) ?_
  refine aw_iload_n dX6_cut_0 1 rfl ?_
  refine aw_if_lt 12 dX6_cut_1 (by decide) (fun c1 => ?_) (fun c1 => ?_)
  · refine aw_iconst (v := -1) dX6_cut_12 (by decide) ?_
    refine aw_iret dX6_cut_13 rfl (Nat.zero_le _) (Nat.zero_le _) ?_
    exact ⟨congrArg (fun z => some (Value.int z)) (show sX6_cut M x1 = -1 by unfold sX6_cut; rw [if_pos c1]).symm, (show tX6_cut M x1 = M by unfold tX6_cut; rw [if_pos c1]).symm⟩
  · refine aw_iload_n dX6_cut_4 1 rfl ?_
    refine aw_aload_n dX6_cut_5 0 rfl ?_
    refine aw_getI dX6_cut_6 fl_X6_354 (hT.s 0 (by decide)) (hT.n 0 (by decide)) ?_
    refine aw_icmp_le 14 dX6_cut_9 (by decide) (fun c2 => ?_) (fun c2 => ?_)
    · refine aw_aload_n dX6_cut_14 0 rfl ?_
      refine aw_getI dX6_cut_15 fl_X6_354 (hT.s 0 (by decide)) (hT.n 0 (by decide)) ?_
      refine aw_iload_n dX6_cut_18 1 rfl ?_
      refine aw_isub dX6_cut_19 ?_
      refine aw_istore_n [(2, .int ((mI M 0 6) - x1)), (0, .ref 0), (1, .int x1)] dX6_cut_20 (Nat.le_of_ble_eq_true rfl) rfl ?_
      refine aw_aload_n dX6_cut_21 1 rfl ?_
      refine aw_iload_n dX6_cut_22 2 rfl ?_
      refine aw_putI dX6_cut_23 fl_X6_354 (Or.inl rfl) (hT.s 0 (by decide)) (hT.n 0 (by decide)) ?_
      refine aw_aload_n dX6_cut_26 1 rfl ?_
      refine aw_aload_n dX6_cut_27 1 rfl ?_
      refine aw_getI dX6_cut_28 fl_X6_366 (hT.s 0 (by decide)) (hT.n 0 (by decide)) ?_
      refine aw_iload_n dX6_cut_31 2 rfl ?_
      refine aw_icmp_le 39 dX6_cut_32 (by decide) (fun c3 => ?_) (fun c3 => ?_)
      · refine aw_aload_n dX6_cut_39 1 rfl ?_
        refine aw_getI dX6_cut_40 fl_X6_366 (hT.s 0 (by decide)) (hT.n 0 (by decide)) ?_
        refine aw_putI dX6_cut_43 fl_X6_366 (Or.inl rfl) (hT.s 0 (by decide)) (hT.n 0 (by decide)) ?_
        refine aw_iload_n dX6_cut_46 0 rfl ?_
        refine aw_iret dX6_cut_47 rfl (Nat.zero_le _) (Nat.zero_le _) ?_
        exact ⟨congrArg (fun z => some (Value.int z)) (show sX6_cut M x1 = (mI M 0 6) - x1 by unfold sX6_cut; rw [if_neg c1, if_pos c2, if_pos c3]).symm, (show tX6_cut M x1 = (stI (stI M 0 6 x1) 0 7 (mI (stI M 0 6 x1) 0 7)) by unfold tX6_cut; rw [if_neg c1, if_pos c2, if_pos c3]).symm⟩
      · refine aw_iload_n dX6_cut_35 2 rfl ?_
        refine aw_goto 43 dX6_cut_36 (by decide) ?_
        refine aw_putI dX6_cut_43 fl_X6_366 (Or.inl rfl) (hT.s 0 (by decide)) (hT.n 0 (by decide)) ?_
        refine aw_iload_n dX6_cut_46 0 rfl ?_
        refine aw_iret dX6_cut_47 rfl (Nat.zero_le _) (Nat.zero_le _) ?_
        exact ⟨congrArg (fun z => some (Value.int z)) (show sX6_cut M x1 = (mI M 0 6) - x1 by unfold sX6_cut; rw [if_neg c1, if_pos c2, if_neg c3]).symm, (show tX6_cut M x1 = (stI (stI M 0 6 x1) 0 7 x1) by unfold tX6_cut; rw [if_neg c1, if_pos c2, if_neg c3]).symm⟩
    · refine aw_iconst (v := -1) dX6_cut_12 (by decide) ?_
      refine aw_iret dX6_cut_13 rfl (Nat.zero_le _) (Nat.zero_le _) ?_
      exact ⟨congrArg (fun z => some (Value.int z)) (show sX6_cut M x1 = -1 by unfold sX6_cut; rw [if_neg c1, if_neg c2]).symm, (show tX6_cut M x1 = M by unfold tX6_cut; rw [if_neg c1, if_neg c2]).symm⟩
def sX6_refusalOfGet (M : xM) (x1 : Int32) (x2 : Int32) (x3 : Int32) : Int32 := (if 0 ≤ (sX6_refusal M x1) then (if (bz (sX6_isPlain M x1)) = 0 then -7 else (if (bz (sX6_isPlace M x1 (Int32.toInt64 x3))) = 0 then -8 else (if (bz (sX6_turns (mI M 1 x1.toNatClampNeg) x2)) = 0 then -9 else 0))) else sX6_refusal M x1)
theorem sp_X6_refusalOfGet {d : Nat} (hd : 1 ≤ d) {M : xM} (x1 : Int32) (x2 : Int32) (x3 : Int32) (hT : TR M) (hx1 : vp_in x1 24) : Sp (fX6_refusalOfGet d) [.ref 0, .int x1, .int x2, .int x3] M (dt (some (.int (sX6_refusalOfGet M x1 x2 x3))) (M)) := by
  refine Sp.of pn_X6 (Nat.le_of_ble_eq_true rfl) (fun h => Bool.noConfusion h) ?_
  refine aw_aload_n dX6_refusalOfGet_0 0 rfl ?_
  refine aw_iload_n dX6_refusalOfGet_1 1 rfl ?_
  refine aw_callVi [.int x1] [] (sp_X6_refusal (d := d - 1) (by omega) x1 hT hx1) dX6_refusalOfGet_2 ml_X6_162 im_X6_refusal (hT.s 0 (by decide)) (hT.n 0 (by decide)) rfl rfl (dl1 (d := d) (by omega)) rfl rfl (Nat.le_of_ble_eq_true rfl) rfl rfl (Nat.zero_le _) (Nat.zero_le _) ?_
  refine aw_istore [(4, .int (sX6_refusal M x1)), (0, .ref 0), (1, .int x1), (2, .int x2), (3, .int x3)] dX6_refusalOfGet_5 (Nat.le_of_ble_eq_true rfl) rfl ?_
  refine aw_iload dX6_refusalOfGet_7 0 rfl ?_
  refine aw_if_ge 15 dX6_refusalOfGet_9 (by decide) (fun c1 => ?_) (fun c1 => ?_)
  · refine aw_aload_n dX6_refusalOfGet_15 1 rfl ?_
    refine aw_iload_n dX6_refusalOfGet_16 2 rfl ?_
    refine aw_callVi [.int x1] [] (sp_X6_isPlain (d := d - 1) (by omega) x1 hT hx1) dX6_refusalOfGet_17 ml_X6_183 im_X6_isPlain (hT.s 0 (by decide)) (hT.n 0 (by decide)) rfl rfl (dl1 (d := d) (by omega)) rfl rfl (Nat.le_of_ble_eq_true rfl) rfl rfl (Nat.zero_le _) (Nat.zero_le _) ?_
    refine aw_if_ne 26 dX6_refusalOfGet_20 (by decide) (fun c2 => ?_) (fun c2 => ?_)
    · refine aw_aload_n dX6_refusalOfGet_26 1 rfl ?_
      refine aw_iload_n dX6_refusalOfGet_27 2 rfl ?_
      refine aw_iload_n dX6_refusalOfGet_28 4 rfl ?_
      refine aw_i2l dX6_refusalOfGet_29 ?_
      refine aw_callVi [.int x1, .long (Int32.toInt64 x3)] [] (sp_X6_isPlace (d := d - 1) (by omega) x1 (Int32.toInt64 x3) hT hx1) dX6_refusalOfGet_30 ml_X6_186 im_X6_isPlace (hT.s 0 (by decide)) (hT.n 0 (by decide)) rfl rfl (dl1 (d := d) (by omega)) rfl rfl (Nat.le_of_ble_eq_true rfl) rfl rfl (Nat.zero_le _) (Nat.zero_le _) ?_
      refine aw_if_ne 39 dX6_refusalOfGet_33 (by decide) (fun c3 => ?_) (fun c3 => ?_)
      · refine aw_aload_n dX6_refusalOfGet_39 1 rfl ?_
        refine aw_getR (b := 1) dX6_refusalOfGet_40 fl_X6_7 rfl (hT.s 0 (by decide)) (hT.n 0 (by decide)) (hT.r 0) ?_
        refine aw_iload_n dX6_refusalOfGet_43 2 rfl ?_
        refine aw_iald dX6_refusalOfGet_44 (hT.s 1 (by decide)) (hT.n 1 (by decide)) hx1 ?_
        refine aw_iload_n dX6_refusalOfGet_45 3 rfl ?_
        refine aw_callSi [.int (mI M 1 x1.toNatClampNeg), .int x2] [] (sp_X6_turns (d := d - 1) (by omega) (mI M 1 x1.toNatClampNeg) x2 ) dX6_refusalOfGet_46 ml_X6_128 sm_X6_turns rfl (dl1 (d := d) (by omega)) rfl rfl (Nat.le_of_ble_eq_true rfl) rfl rfl (Nat.zero_le _) (Nat.zero_le _) ?_
        refine aw_if_eq 56 dX6_refusalOfGet_49 (by decide) (fun c4 => ?_) (fun c4 => ?_)
        · refine aw_bipush (v := -9) dX6_refusalOfGet_56 (by decide) ?_
          refine aw_iret dX6_refusalOfGet_58 rfl (Nat.zero_le _) (Nat.zero_le _) ?_
          exact ⟨congrArg (fun z => some (Value.int z)) (show sX6_refusalOfGet M x1 x2 x3 = -9 by unfold sX6_refusalOfGet; rw [if_pos c1, if_neg c2, if_neg c3, if_pos c4]).symm, rfl⟩
        · refine aw_iconst (v := 0) dX6_refusalOfGet_52 (by decide) ?_
          refine aw_goto 58 dX6_refusalOfGet_53 (by decide) ?_
          refine aw_iret dX6_refusalOfGet_58 rfl (Nat.zero_le _) (Nat.zero_le _) ?_
          exact ⟨congrArg (fun z => some (Value.int z)) (show sX6_refusalOfGet M x1 x2 x3 = 0 by unfold sX6_refusalOfGet; rw [if_pos c1, if_neg c2, if_neg c3, if_neg c4]).symm, rfl⟩
      · refine aw_bipush (v := -8) dX6_refusalOfGet_36 (by decide) ?_
        refine aw_iret dX6_refusalOfGet_38 rfl (Nat.zero_le _) (Nat.zero_le _) ?_
        exact ⟨congrArg (fun z => some (Value.int z)) (show sX6_refusalOfGet M x1 x2 x3 = -8 by unfold sX6_refusalOfGet; rw [if_pos c1, if_neg c2, if_pos c3]).symm, rfl⟩
    · refine aw_bipush (v := -7) dX6_refusalOfGet_23 (by decide) ?_
      refine aw_iret dX6_refusalOfGet_25 rfl (Nat.zero_le _) (Nat.zero_le _) ?_
      exact ⟨congrArg (fun z => some (Value.int z)) (show sX6_refusalOfGet M x1 x2 x3 = -7 by unfold sX6_refusalOfGet; rw [if_pos c1, if_pos c2]).symm, rfl⟩
  · refine aw_iload dX6_refusalOfGet_12 0 rfl ?_
    refine aw_iret dX6_refusalOfGet_14 rfl (Nat.zero_le _) (Nat.zero_le _) ?_
    exact ⟨congrArg (fun z => some (Value.int z)) (show sX6_refusalOfGet M x1 x2 x3 = sX6_refusal M x1 by unfold sX6_refusalOfGet; rw [if_neg c1]).symm, rfl⟩
def sX6_look (M : xM) (x1 : Int32) (x2 : Int32) (x3 : Int32) : Int64 := (if (bz (sX6_isThing (Int32.toInt64 x1))) = 0 then 0 else (if (bz (sX6_isIn (Int32.toInt64 x3) 0 1)) = 0 then 0 else (if (sX6_refusal M x1) = 0 then (if (bz (sX6_isPlace M x1 (Int32.toInt64 x2))) = 0 then 0 else (if x3 = 0 then Int32.toInt64 (mI (tX6_tells M (sX6_refusal M x1) (-1)) 4 (((12 * x1) + x2).toNatClampNeg)) else mL (tX6_tells M (sX6_refusal M x1) (-1)) 5 (((12 * x1) + x2).toNatClampNeg))) else 0)))
def tX6_look (M : xM) (x1 : Int32) (x2 : Int32) (x3 : Int32) : xM := (if (bz (sX6_isThing (Int32.toInt64 x1))) = 0 then (tX6_tells M (-1) (-1)) else (if (bz (sX6_isIn (Int32.toInt64 x3) 0 1)) = 0 then (tX6_tells M (-1) (-1)) else (if (sX6_refusal M x1) = 0 then (if (bz (sX6_isPlace M x1 (Int32.toInt64 x2))) = 0 then (tX6_counts (tX6_tells M (-8) (-1)) (-8)) else (if x3 = 0 then (tX6_tells M (sX6_refusal M x1) (-1)) else (tX6_tells M (sX6_refusal M x1) (-1)))) else (tX6_counts (tX6_tells M (sX6_refusal M x1) (-1)) (sX6_refusal M x1)))))
theorem sT_X6_look (M : xM) (x1 : Int32) (x2 : Int32) (x3 : Int32) : sT M (tX6_look M x1 x2 x3) := (sT.ite ((sT.rf M).tr (sT_X6_tells M (-1) (-1))) (sT.ite ((sT.rf M).tr (sT_X6_tells M (-1) (-1))) (sT.ite (sT.ite (((sT.rf M).tr (sT_X6_tells M (-8) (-1))).tr (sT_X6_counts (tX6_tells M (-8) (-1)) (-8))) (sT.ite ((sT.rf M).tr (sT_X6_tells M (sX6_refusal M x1) (-1))) ((sT.rf M).tr (sT_X6_tells M (sX6_refusal M x1) (-1))))) (((sT.rf M).tr (sT_X6_tells M (sX6_refusal M x1) (-1))).tr (sT_X6_counts (tX6_tells M (sX6_refusal M x1) (-1)) (sX6_refusal M x1))))))
theorem sp_X6_look {d : Nat} (hd : 2 ≤ d) {M : xM} (x1 : Int32) (x2 : Int32) (x3 : Int32) (hT : TR M)  (hZ : LenR M) : Sp (fX6_look d) [.ref 0, .int x1, .int x2, .int x3] M (dt (some (.long (sX6_look M x1 x2 x3))) (tX6_look M x1 x2 x3)) := by
  refine Sp.of pn_X6 (Nat.le_of_ble_eq_true rfl) (fun h => Bool.noConfusion h) ?_
  refine aw_iload_n dX6_look_0 1 rfl ?_
  refine aw_i2l dX6_look_1 ?_
  refine aw_callSi [.long (Int32.toInt64 x1)] [] (sp_X6_isThing (d := d - 1) (by omega) (Int32.toInt64 x1) ) dX6_look_2 ml_X6_159 sm_X6_isThing rfl (dl1 (d := d) (by omega)) rfl rfl (Nat.le_of_ble_eq_true rfl) rfl rfl (Nat.zero_le _) (Nat.zero_le _) ?_
  refine aw_if_eq 18 dX6_look_5 (by decide) (fun c1 => ?_) (fun c1 => ?_)
  · refine aw_aload_n dX6_look_18 0 rfl ?_
    refine aw_iconst (v := -1) dX6_look_19 (by decide) ?_
    refine aw_iconst (v := -1) dX6_look_20 (by decide) ?_
    refine aw_callVi [.int (-1), .int (-1)] [] (sp_X6_tells (d := d - 1) (by omega) (-1) (-1) hT) dX6_look_21 ml_X6_192 im_X6_tells (hT.s 0 (by decide)) (hT.n 0 (by decide)) rfl rfl (dl1 (d := d) (by omega)) rfl rfl (Nat.le_of_ble_eq_true rfl) rfl rfl (Nat.zero_le _) (Nat.zero_le _) ?_
    refine aw_pop dX6_look_24 rfl ?_
    refine aw_lconst (v := 0) dX6_look_25 (by decide) ?_
    refine aw_lret dX6_look_26 rfl (Nat.zero_le _) (Nat.zero_le _) ?_
    exact ⟨congrArg (fun z => some (Value.long z)) (show sX6_look M x1 x2 x3 = 0 by unfold sX6_look; rw [if_pos c1]).symm, (show tX6_look M x1 x2 x3 = (tX6_tells M (-1) (-1)) by unfold tX6_look; rw [if_pos c1]).symm⟩
  · refine aw_iload_n dX6_look_8 3 rfl ?_
    refine aw_i2l dX6_look_9 ?_
    refine aw_lconst (v := 0) dX6_look_10 (by decide) ?_
    refine aw_lconst (v := 1) dX6_look_11 (by decide) ?_
    refine aw_callSi [.long (Int32.toInt64 x3), .long 0, .long 1] [] (sp_X6_isIn (d := d - 1) (by omega) (Int32.toInt64 x3) 0 1 ) dX6_look_12 ml_X6_73 sm_X6_isIn rfl (dl1 (d := d) (by omega)) rfl rfl (Nat.le_of_ble_eq_true rfl) rfl rfl (Nat.zero_le _) (Nat.zero_le _) ?_
    refine aw_if_ne 27 dX6_look_15 (by decide) (fun c2 => ?_) (fun c2 => ?_)
    · refine aw_aload_n dX6_look_27 0 rfl ?_
      refine aw_iload_n dX6_look_28 1 rfl ?_
      refine aw_callVi [.int x1] [] (sp_X6_refusal (d := d - 1) (by omega) x1 hT (thing_vp c1)) dX6_look_29 ml_X6_162 im_X6_refusal (hT.s 0 (by decide)) (hT.n 0 (by decide)) rfl rfl (dl1 (d := d) (by omega)) rfl rfl (Nat.le_of_ble_eq_true rfl) rfl rfl (Nat.zero_le _) (Nat.zero_le _) ?_
      refine aw_istore [(4, .int (sX6_refusal M x1)), (0, .ref 0), (1, .int x1), (2, .int x2), (3, .int x3)] dX6_look_32 (Nat.le_of_ble_eq_true rfl) rfl ?_
      refine aw_iload dX6_look_34 0 rfl ?_
      refine aw_if_ne 53 dX6_look_36 (by decide) (fun c3 => ?_) (fun c3 => ?_)
      · refine aw_aload_n dX6_look_53 1 rfl ?_
        refine aw_iload dX6_look_54 0 rfl ?_
        refine aw_iconst (v := -1) dX6_look_56 (by decide) ?_
        refine aw_callVi [.int (sX6_refusal M x1), .int (-1)] [] (sp_X6_tells (d := d - 1) (by omega) (sX6_refusal M x1) (-1) hT) dX6_look_57 ml_X6_192 im_X6_tells (hT.s 0 (by decide)) (hT.n 0 (by decide)) rfl rfl (dl1 (d := d) (by omega)) rfl rfl (Nat.le_of_ble_eq_true rfl) rfl rfl (Nat.zero_le _) (Nat.zero_le _) ?_
        refine aw_pop dX6_look_60 rfl ?_
        refine aw_iload dX6_look_61 0 rfl ?_
        refine aw_if_ge 75 dX6_look_63 (by decide) (fun c4 => absurd c4 (refusal_0 c3)) (fun c4 => ?_)
        refine aw_aload_n dX6_look_66 1 rfl ?_
        refine aw_iload dX6_look_67 0 rfl ?_
        refine aw_callVi [.int (sX6_refusal M x1)] [] (sp_X6_counts (d := d - 1) (by omega) (sX6_refusal M x1) ((sT_X6_tells M (sX6_refusal M x1) (-1)).TR hT)) dX6_look_69 ml_X6_200 im_X6_counts (((sT_X6_tells M (sX6_refusal M x1) (-1)).TR hT).s 0 (by decide)) (((sT_X6_tells M (sX6_refusal M x1) (-1)).TR hT).n 0 (by decide)) rfl rfl (dl1 (d := d) (by omega)) rfl rfl (Nat.le_of_ble_eq_true rfl) rfl rfl (Nat.zero_le _) (Nat.zero_le _) ?_
        refine aw_pop dX6_look_72 rfl ?_
        refine aw_lconst (v := 0) dX6_look_73 (by decide) ?_
        refine aw_lret dX6_look_74 rfl (Nat.zero_le _) (Nat.zero_le _) ?_
        exact ⟨congrArg (fun z => some (Value.long z)) (show sX6_look M x1 x2 x3 = 0 by unfold sX6_look; rw [if_neg c1, if_neg c2, if_neg c3]).symm, (show tX6_look M x1 x2 x3 = (tX6_counts (tX6_tells M (sX6_refusal M x1) (-1)) (sX6_refusal M x1)) by unfold tX6_look; rw [if_neg c1, if_neg c2, if_neg c3]).symm⟩
      · refine aw_aload_n dX6_look_39 1 rfl ?_
        refine aw_iload_n dX6_look_40 2 rfl ?_
        refine aw_iload_n dX6_look_41 3 rfl ?_
        refine aw_i2l dX6_look_42 ?_
        refine aw_callVi [.int x1, .long (Int32.toInt64 x2)] [] (sp_X6_isPlace (d := d - 1) (by omega) x1 (Int32.toInt64 x2) hT (thing_vp c1)) dX6_look_43 ml_X6_186 im_X6_isPlace (hT.s 0 (by decide)) (hT.n 0 (by decide)) rfl rfl (dl1 (d := d) (by omega)) rfl rfl (Nat.le_of_ble_eq_true rfl) rfl rfl (Nat.zero_le _) (Nat.zero_le _) ?_
        refine aw_if_ne 53 dX6_look_46 (by decide) (fun c5 => ?_) (fun c5 => ?_)
        · refine aw_aload_n dX6_look_53 1 rfl ?_
          refine aw_iload dX6_look_54 0 rfl ?_
          refine aw_iconst (v := -1) dX6_look_56 (by decide) ?_
          refine aw_callVi [.int (sX6_refusal M x1), .int (-1)] [] (sp_X6_tells (d := d - 1) (by omega) (sX6_refusal M x1) (-1) hT) dX6_look_57 ml_X6_192 im_X6_tells (hT.s 0 (by decide)) (hT.n 0 (by decide)) rfl rfl (dl1 (d := d) (by omega)) rfl rfl (Nat.le_of_ble_eq_true rfl) rfl rfl (Nat.zero_le _) (Nat.zero_le _) ?_
          refine aw_pop dX6_look_60 rfl ?_
          refine aw_iload dX6_look_61 0 rfl ?_
          refine aw_if_ge 75 dX6_look_63 (by decide) (fun c6 => ?_) (fun c6 => absurd (by rw [c3]; decide) c6)
          refine aw_iload_n dX6_look_75 4 rfl ?_
          refine aw_if_ne 94 dX6_look_76 (by decide) (fun c7 => ?_) (fun c7 => ?_)
          · refine aw_aload_n dX6_look_94 1 rfl ?_
            refine aw_getR (b := 5) dX6_look_95 fl_X6_23 rfl (((sT_X6_tells M (sX6_refusal M x1) (-1)).TR hT).s 0 (by decide)) (((sT_X6_tells M (sX6_refusal M x1) (-1)).TR hT).n 0 (by decide)) (((sT_X6_tells M (sX6_refusal M x1) (-1)).TR hT).r 4) ?_
            refine aw_bipush (v := 12) dX6_look_98 (by decide) ?_
            refine aw_iload_n dX6_look_100 2 rfl ?_
            refine aw_imul dX6_look_101 ?_
            refine aw_iload_n dX6_look_102 3 rfl ?_
            refine aw_iadd dX6_look_103 ?_
            refine aw_lald dX6_look_104 (((sT_X6_tells M (sX6_refusal M x1) (-1)).TR hT).s 5 (by decide)) (((sT_X6_tells M (sX6_refusal M x1) (-1)).TR hT).n 5 (by decide)) (cell_vp hZ (thing_vp c1) c5) ?_
            refine aw_lret dX6_look_105 rfl (Nat.zero_le _) (Nat.zero_le _) ?_
            exact ⟨congrArg (fun z => some (Value.long z)) (show sX6_look M x1 x2 x3 = mL (tX6_tells M (sX6_refusal M x1) (-1)) 5 (((12 * x1) + x2).toNatClampNeg) by unfold sX6_look; rw [if_neg c1, if_neg c2, if_pos c3, if_neg c5, if_neg c7]).symm, (show tX6_look M x1 x2 x3 = (tX6_tells M (sX6_refusal M x1) (-1)) by unfold tX6_look; rw [if_neg c1, if_neg c2, if_pos c3, if_neg c5, if_neg c7]).symm⟩
          · refine aw_aload_n dX6_look_79 1 rfl ?_
            refine aw_getR (b := 4) dX6_look_80 fl_X6_20 rfl (((sT_X6_tells M (sX6_refusal M x1) (-1)).TR hT).s 0 (by decide)) (((sT_X6_tells M (sX6_refusal M x1) (-1)).TR hT).n 0 (by decide)) (((sT_X6_tells M (sX6_refusal M x1) (-1)).TR hT).r 3) ?_
            refine aw_bipush (v := 12) dX6_look_83 (by decide) ?_
            refine aw_iload_n dX6_look_85 2 rfl ?_
            refine aw_imul dX6_look_86 ?_
            refine aw_iload_n dX6_look_87 3 rfl ?_
            refine aw_iadd dX6_look_88 ?_
            refine aw_iald dX6_look_89 (((sT_X6_tells M (sX6_refusal M x1) (-1)).TR hT).s 4 (by decide)) (((sT_X6_tells M (sX6_refusal M x1) (-1)).TR hT).n 4 (by decide)) (cell_vp hZ (thing_vp c1) c5) ?_
            refine aw_i2l dX6_look_90 ?_
            refine aw_goto 105 dX6_look_91 (by decide) ?_
            refine aw_lret dX6_look_105 rfl (Nat.zero_le _) (Nat.zero_le _) ?_
            exact ⟨congrArg (fun z => some (Value.long z)) (show sX6_look M x1 x2 x3 = Int32.toInt64 (mI (tX6_tells M (sX6_refusal M x1) (-1)) 4 (((12 * x1) + x2).toNatClampNeg)) by unfold sX6_look; rw [if_neg c1, if_neg c2, if_pos c3, if_neg c5, if_pos c7]).symm, (show tX6_look M x1 x2 x3 = (tX6_tells M (sX6_refusal M x1) (-1)) by unfold tX6_look; rw [if_neg c1, if_neg c2, if_pos c3, if_neg c5, if_pos c7]).symm⟩
        · refine aw_bipush (v := -8) dX6_look_49 (by decide) ?_
          refine aw_istore [(4, .int (-8)), (0, .ref 0), (1, .int x1), (2, .int x2), (3, .int x3)] dX6_look_51 (Nat.le_of_ble_eq_true rfl) rfl ?_
          refine aw_aload_n dX6_look_53 1 rfl ?_
          refine aw_iload dX6_look_54 0 rfl ?_
          refine aw_iconst (v := -1) dX6_look_56 (by decide) ?_
          refine aw_callVi [.int (-8), .int (-1)] [] (sp_X6_tells (d := d - 1) (by omega) (-8) (-1) hT) dX6_look_57 ml_X6_192 im_X6_tells (hT.s 0 (by decide)) (hT.n 0 (by decide)) rfl rfl (dl1 (d := d) (by omega)) rfl rfl (Nat.le_of_ble_eq_true rfl) rfl rfl (Nat.zero_le _) (Nat.zero_le _) ?_
          refine aw_pop dX6_look_60 rfl ?_
          refine aw_iload dX6_look_61 0 rfl ?_
          refine aw_if_ge 75 dX6_look_63 (by decide) (fun c8 => absurd c8 (by decide)) (fun c8 => ?_)
          refine aw_aload_n dX6_look_66 1 rfl ?_
          refine aw_iload dX6_look_67 0 rfl ?_
          refine aw_callVi [.int (-8)] [] (sp_X6_counts (d := d - 1) (by omega) (-8) ((sT_X6_tells M (-8) (-1)).TR hT)) dX6_look_69 ml_X6_200 im_X6_counts (((sT_X6_tells M (-8) (-1)).TR hT).s 0 (by decide)) (((sT_X6_tells M (-8) (-1)).TR hT).n 0 (by decide)) rfl rfl (dl1 (d := d) (by omega)) rfl rfl (Nat.le_of_ble_eq_true rfl) rfl rfl (Nat.zero_le _) (Nat.zero_le _) ?_
          refine aw_pop dX6_look_72 rfl ?_
          refine aw_lconst (v := 0) dX6_look_73 (by decide) ?_
          refine aw_lret dX6_look_74 rfl (Nat.zero_le _) (Nat.zero_le _) ?_
          exact ⟨congrArg (fun z => some (Value.long z)) (show sX6_look M x1 x2 x3 = 0 by unfold sX6_look; rw [if_neg c1, if_neg c2, if_pos c3, if_pos c5]).symm, (show tX6_look M x1 x2 x3 = (tX6_counts (tX6_tells M (-8) (-1)) (-8)) by unfold tX6_look; rw [if_neg c1, if_neg c2, if_pos c3, if_pos c5]).symm⟩
    · refine aw_aload_n dX6_look_18 0 rfl ?_
      refine aw_iconst (v := -1) dX6_look_19 (by decide) ?_
      refine aw_iconst (v := -1) dX6_look_20 (by decide) ?_
      refine aw_callVi [.int (-1), .int (-1)] [] (sp_X6_tells (d := d - 1) (by omega) (-1) (-1) hT) dX6_look_21 ml_X6_192 im_X6_tells (hT.s 0 (by decide)) (hT.n 0 (by decide)) rfl rfl (dl1 (d := d) (by omega)) rfl rfl (Nat.le_of_ble_eq_true rfl) rfl rfl (Nat.zero_le _) (Nat.zero_le _) ?_
      refine aw_pop dX6_look_24 rfl ?_
      refine aw_lconst (v := 0) dX6_look_25 (by decide) ?_
      refine aw_lret dX6_look_26 rfl (Nat.zero_le _) (Nat.zero_le _) ?_
      exact ⟨congrArg (fun z => some (Value.long z)) (show sX6_look M x1 x2 x3 = 0 by unfold sX6_look; rw [if_neg c1, if_pos c2]).symm, (show tX6_look M x1 x2 x3 = (tX6_tells M (-1) (-1)) by unfold tX6_look; rw [if_neg c1, if_pos c2]).symm⟩
def sX6_swap (M : xM) (x1 : Int32) (x2 : Int32) (x3 : Int32) : Int32 := (if (bz (sX6_isThing (Int32.toInt64 x1))) = 0 then -1 else (if 0 ≤ (sX6_refusal M x1) then (if (bz (sX6_isPlace M x1 (Int32.toInt64 x2))) = 0 then -8 else (if (bz (sX6_isPlace M x1 (Int32.toInt64 x3))) = 0 then -8 else 0)) else sX6_refusal M x1))
def tX6_swap (M : xM) (x1 : Int32) (x2 : Int32) (x3 : Int32) : xM := (if (bz (sX6_isThing (Int32.toInt64 x1))) = 0 then M else (if 0 ≤ (sX6_refusal M x1) then (if (bz (sX6_isPlace M x1 (Int32.toInt64 x2))) = 0 then M else (if (bz (sX6_isPlace M x1 (Int32.toInt64 x3))) = 0 then M else (stL (stI (stL (stI M 4 (((12 * x1) + x2).toNatClampNeg) (mI M 4 (((12 * x1) + x3).toNatClampNeg))) 5 (((12 * x1) + x2).toNatClampNeg) (mL (stI M 4 (((12 * x1) + x2).toNatClampNeg) (mI M 4 (((12 * x1) + x3).toNatClampNeg))) 5 (((12 * x1) + x3).toNatClampNeg))) 4 (((12 * x1) + x3).toNatClampNeg) (mI M 4 (((12 * x1) + x2).toNatClampNeg))) 5 (((12 * x1) + x3).toNatClampNeg) (mL M 5 (((12 * x1) + x2).toNatClampNeg))))) else M))
theorem sT_X6_swap (M : xM) (x1 : Int32) (x2 : Int32) (x3 : Int32) : sT M (tX6_swap M x1 x2 x3) := (sT.ite (sT.rf M) (sT.ite (sT.ite (sT.rf M) (sT.ite (sT.rf M) (((((sT.rf M).tr (sT.I _ _ _ _)).tr (sT.L _ _ _ _)).tr (sT.I _ _ _ _)).tr (sT.L _ _ _ _)))) (sT.rf M)))
theorem sp_X6_swap {d : Nat} (hd : 2 ≤ d) {M : xM} (x1 : Int32) (x2 : Int32) (x3 : Int32) (hT : TR M)  (hZ : LenR M) : Sp (fX6_swap d) [.ref 0, .int x1, .int x2, .int x3] M (dt (some (.int (sX6_swap M x1 x2 x3))) (tX6_swap M x1 x2 x3)) := by
  refine Sp.of pn_X6 (Nat.le_of_ble_eq_true rfl) (fun h => Bool.noConfusion h) ?_
  refine aw_iload_n dX6_swap_0 1 rfl ?_
  refine aw_i2l dX6_swap_1 ?_
  refine aw_callSi [.long (Int32.toInt64 x1)] [] (sp_X6_isThing (d := d - 1) (by omega) (Int32.toInt64 x1) ) dX6_swap_2 ml_X6_159 sm_X6_isThing rfl (dl1 (d := d) (by omega)) rfl rfl (Nat.le_of_ble_eq_true rfl) rfl rfl (Nat.zero_le _) (Nat.zero_le _) ?_
  refine aw_if_ne 10 dX6_swap_5 (by decide) (fun c1 => ?_) (fun c1 => ?_)
  · refine aw_aload_n dX6_swap_10 0 rfl ?_
    refine aw_iload_n dX6_swap_11 1 rfl ?_
    refine aw_callVi [.int x1] [] (sp_X6_refusal (d := d - 1) (by omega) x1 hT (thing_vp c1)) dX6_swap_12 ml_X6_162 im_X6_refusal (hT.s 0 (by decide)) (hT.n 0 (by decide)) rfl rfl (dl1 (d := d) (by omega)) rfl rfl (Nat.le_of_ble_eq_true rfl) rfl rfl (Nat.zero_le _) (Nat.zero_le _) ?_
    refine aw_istore [(4, .int (sX6_refusal M x1)), (0, .ref 0), (1, .int x1), (2, .int x2), (3, .int x3)] dX6_swap_15 (Nat.le_of_ble_eq_true rfl) rfl ?_
    refine aw_iload dX6_swap_17 0 rfl ?_
    refine aw_if_ge 25 dX6_swap_19 (by decide) (fun c2 => ?_) (fun c2 => ?_)
    · refine aw_aload_n dX6_swap_25 1 rfl ?_
      refine aw_iload_n dX6_swap_26 2 rfl ?_
      refine aw_iload_n dX6_swap_27 3 rfl ?_
      refine aw_i2l dX6_swap_28 ?_
      refine aw_callVi [.int x1, .long (Int32.toInt64 x2)] [] (sp_X6_isPlace (d := d - 1) (by omega) x1 (Int32.toInt64 x2) hT (thing_vp c1)) dX6_swap_29 ml_X6_186 im_X6_isPlace (hT.s 0 (by decide)) (hT.n 0 (by decide)) rfl rfl (dl1 (d := d) (by omega)) rfl rfl (Nat.le_of_ble_eq_true rfl) rfl rfl (Nat.zero_le _) (Nat.zero_le _) ?_
      refine aw_if_eq 45 dX6_swap_32 (by decide) (fun c3 => ?_) (fun c3 => ?_)
      · refine aw_bipush (v := -8) dX6_swap_45 (by decide) ?_
        refine aw_iret dX6_swap_47 rfl (Nat.zero_le _) (Nat.zero_le _) ?_
        exact ⟨congrArg (fun z => some (Value.int z)) (show sX6_swap M x1 x2 x3 = -8 by unfold sX6_swap; rw [if_neg c1, if_pos c2, if_pos c3]).symm, (show tX6_swap M x1 x2 x3 = M by unfold tX6_swap; rw [if_neg c1, if_pos c2, if_pos c3]).symm⟩
      · refine aw_aload_n dX6_swap_35 1 rfl ?_
        refine aw_iload_n dX6_swap_36 2 rfl ?_
        refine aw_iload_n dX6_swap_37 4 rfl ?_
        refine aw_i2l dX6_swap_38 ?_
        refine aw_callVi [.int x1, .long (Int32.toInt64 x3)] [] (sp_X6_isPlace (d := d - 1) (by omega) x1 (Int32.toInt64 x3) hT (thing_vp c1)) dX6_swap_39 ml_X6_186 im_X6_isPlace (hT.s 0 (by decide)) (hT.n 0 (by decide)) rfl rfl (dl1 (d := d) (by omega)) rfl rfl (Nat.le_of_ble_eq_true rfl) rfl rfl (Nat.zero_le _) (Nat.zero_le _) ?_
        refine aw_if_ne 48 dX6_swap_42 (by decide) (fun c4 => ?_) (fun c4 => ?_)
        · refine aw_aload_n dX6_swap_48 1 rfl ?_
          refine aw_getR (b := 4) dX6_swap_49 fl_X6_20 rfl (hT.s 0 (by decide)) (hT.n 0 (by decide)) (hT.r 3) ?_
          refine aw_bipush (v := 12) dX6_swap_52 (by decide) ?_
          refine aw_iload_n dX6_swap_54 2 rfl ?_
          refine aw_imul dX6_swap_55 ?_
          refine aw_iload_n dX6_swap_56 3 rfl ?_
          refine aw_iadd dX6_swap_57 ?_
          refine aw_iald dX6_swap_58 (hT.s 4 (by decide)) (hT.n 4 (by decide)) (cell_vp hZ (thing_vp c1) c3) ?_
          refine aw_istore [(5, .int (mI M 4 (((12 * x1) + x2).toNatClampNeg))), (4, .int (sX6_refusal M x1)), (0, .ref 0), (1, .int x1), (2, .int x2), (3, .int x3)] dX6_swap_59 (Nat.le_of_ble_eq_true rfl) rfl ?_
          refine aw_aload_n dX6_swap_61 2 rfl ?_
          refine aw_getR (b := 5) dX6_swap_62 fl_X6_23 rfl (hT.s 0 (by decide)) (hT.n 0 (by decide)) (hT.r 4) ?_
          refine aw_bipush (v := 12) dX6_swap_65 (by decide) ?_
          refine aw_iload_n dX6_swap_67 3 rfl ?_
          refine aw_imul dX6_swap_68 ?_
          refine aw_iload_n dX6_swap_69 4 rfl ?_
          refine aw_iadd dX6_swap_70 ?_
          refine aw_lald dX6_swap_71 (hT.s 5 (by decide)) (hT.n 5 (by decide)) (cell_vp hZ (thing_vp c1) c3) ?_
          refine aw_lstore [(6, .long (mL M 5 (((12 * x1) + x2).toNatClampNeg))), (5, .int (mI M 4 (((12 * x1) + x2).toNatClampNeg))), (4, .int (sX6_refusal M x1)), (0, .ref 0), (1, .int x1), (2, .int x2), (3, .int x3)] dX6_swap_72 (Nat.le_of_ble_eq_true rfl) rfl ?_
          refine aw_aload_n dX6_swap_74 3 rfl ?_
          refine aw_getR (b := 4) dX6_swap_75 fl_X6_20 rfl (hT.s 0 (by decide)) (hT.n 0 (by decide)) (hT.r 3) ?_
          refine aw_bipush (v := 12) dX6_swap_78 (by decide) ?_
          refine aw_iload_n dX6_swap_80 4 rfl ?_
          refine aw_imul dX6_swap_81 ?_
          refine aw_iload_n dX6_swap_82 5 rfl ?_
          refine aw_iadd dX6_swap_83 ?_
          refine aw_aload_n dX6_swap_84 3 rfl ?_
          refine aw_getR (b := 4) dX6_swap_85 fl_X6_20 rfl (hT.s 0 (by decide)) (hT.n 0 (by decide)) (hT.r 3) ?_
          refine aw_bipush (v := 12) dX6_swap_88 (by decide) ?_
          refine aw_iload_n dX6_swap_90 4 rfl ?_
          refine aw_imul dX6_swap_91 ?_
          refine aw_iload_n dX6_swap_92 6 rfl ?_
          refine aw_iadd dX6_swap_93 ?_
          refine aw_iald dX6_swap_94 (hT.s 4 (by decide)) (hT.n 4 (by decide)) (cell_vp hZ (thing_vp c1) c4) ?_
          refine aw_iast dX6_swap_95 (hT.s 4 (by decide)) (hT.n 4 (by decide)) (cell_vp hZ (thing_vp c1) c3) ?_
          refine aw_aload_n dX6_swap_96 3 rfl ?_
          refine aw_getR (b := 5) dX6_swap_97 fl_X6_23 rfl (hT.s 0 (by decide)) (hT.n 0 (by decide)) (hT.r 4) ?_
          refine aw_bipush (v := 12) dX6_swap_100 (by decide) ?_
          refine aw_iload_n dX6_swap_102 4 rfl ?_
          refine aw_imul dX6_swap_103 ?_
          refine aw_iload_n dX6_swap_104 5 rfl ?_
          refine aw_iadd dX6_swap_105 ?_
          refine aw_aload_n dX6_swap_106 3 rfl ?_
          refine aw_getR (b := 5) dX6_swap_107 fl_X6_23 rfl (hT.s 0 (by decide)) (hT.n 0 (by decide)) (hT.r 4) ?_
          refine aw_bipush (v := 12) dX6_swap_110 (by decide) ?_
          refine aw_iload_n dX6_swap_112 4 rfl ?_
          refine aw_imul dX6_swap_113 ?_
          refine aw_iload_n dX6_swap_114 6 rfl ?_
          refine aw_iadd dX6_swap_115 ?_
          refine aw_lald dX6_swap_116 (hT.s 5 (by decide)) (hT.n 5 (by decide)) (cell_vp hZ (thing_vp c1) c4) ?_
          refine aw_last dX6_swap_117 (hT.s 5 (by decide)) (hT.n 5 (by decide)) (cell_vp hZ (thing_vp c1) c3) ?_
          refine aw_aload_n dX6_swap_118 3 rfl ?_
          refine aw_getR (b := 4) dX6_swap_119 fl_X6_20 rfl (hT.s 0 (by decide)) (hT.n 0 (by decide)) (hT.r 3) ?_
          refine aw_bipush (v := 12) dX6_swap_122 (by decide) ?_
          refine aw_iload_n dX6_swap_124 4 rfl ?_
          refine aw_imul dX6_swap_125 ?_
          refine aw_iload_n dX6_swap_126 6 rfl ?_
          refine aw_iadd dX6_swap_127 ?_
          refine aw_iload dX6_swap_128 1 rfl ?_
          refine aw_iast dX6_swap_130 (hT.s 4 (by decide)) (hT.n 4 (by decide)) (cell_vp hZ (thing_vp c1) c4) ?_
          refine aw_aload_n dX6_swap_131 3 rfl ?_
          refine aw_getR (b := 5) dX6_swap_132 fl_X6_23 rfl (hT.s 0 (by decide)) (hT.n 0 (by decide)) (hT.r 4) ?_
          refine aw_bipush (v := 12) dX6_swap_135 (by decide) ?_
          refine aw_iload_n dX6_swap_137 4 rfl ?_
          refine aw_imul dX6_swap_138 ?_
          refine aw_iload_n dX6_swap_139 6 rfl ?_
          refine aw_iadd dX6_swap_140 ?_
          refine aw_lload dX6_swap_141 0 rfl ?_
          refine aw_last dX6_swap_143 (hT.s 5 (by decide)) (hT.n 5 (by decide)) (cell_vp hZ (thing_vp c1) c4) ?_
          refine aw_iconst (v := 0) dX6_swap_144 (by decide) ?_
          refine aw_iret dX6_swap_145 rfl (Nat.zero_le _) (Nat.zero_le _) ?_
          exact ⟨congrArg (fun z => some (Value.int z)) (show sX6_swap M x1 x2 x3 = 0 by unfold sX6_swap; rw [if_neg c1, if_pos c2, if_neg c3, if_neg c4]).symm, (show tX6_swap M x1 x2 x3 = (stL (stI (stL (stI M 4 (((12 * x1) + x2).toNatClampNeg) (mI M 4 (((12 * x1) + x3).toNatClampNeg))) 5 (((12 * x1) + x2).toNatClampNeg) (mL (stI M 4 (((12 * x1) + x2).toNatClampNeg) (mI M 4 (((12 * x1) + x3).toNatClampNeg))) 5 (((12 * x1) + x3).toNatClampNeg))) 4 (((12 * x1) + x3).toNatClampNeg) (mI M 4 (((12 * x1) + x2).toNatClampNeg))) 5 (((12 * x1) + x3).toNatClampNeg) (mL M 5 (((12 * x1) + x2).toNatClampNeg))) by unfold tX6_swap; rw [if_neg c1, if_pos c2, if_neg c3, if_neg c4]).symm⟩
        · refine aw_bipush (v := -8) dX6_swap_45 (by decide) ?_
          refine aw_iret dX6_swap_47 rfl (Nat.zero_le _) (Nat.zero_le _) ?_
          exact ⟨congrArg (fun z => some (Value.int z)) (show sX6_swap M x1 x2 x3 = -8 by unfold sX6_swap; rw [if_neg c1, if_pos c2, if_neg c3, if_pos c4]).symm, (show tX6_swap M x1 x2 x3 = M by unfold tX6_swap; rw [if_neg c1, if_pos c2, if_neg c3, if_pos c4]).symm⟩
    · refine aw_iload dX6_swap_22 0 rfl ?_
      refine aw_iret dX6_swap_24 rfl (Nat.zero_le _) (Nat.zero_le _) ?_
      exact ⟨congrArg (fun z => some (Value.int z)) (show sX6_swap M x1 x2 x3 = sX6_refusal M x1 by unfold sX6_swap; rw [if_neg c1, if_neg c2]).symm, (show tX6_swap M x1 x2 x3 = M by unfold tX6_swap; rw [if_neg c1, if_neg c2]).symm⟩
  · refine aw_iconst (v := -1) dX6_swap_8 (by decide) ?_
    refine aw_iret dX6_swap_9 rfl (Nat.zero_le _) (Nat.zero_le _) ?_
    exact ⟨congrArg (fun z => some (Value.int z)) (show sX6_swap M x1 x2 x3 = -1 by unfold sX6_swap; rw [if_pos c1]).symm, (show tX6_swap M x1 x2 x3 = M by unfold tX6_swap; rw [if_pos c1]).symm⟩
