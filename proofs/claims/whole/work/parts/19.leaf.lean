def sX0_isKind (x1 : Int32) : Bool := (if x1 < 0 then false else (if 7 < x1 then false else true))
theorem sp_X0_isKind {d : Nat} (hd : 0 ≤ d) {M : xM} (x1 : Int32)  : Sp (fX0_isKind d) [.int x1] M (dt (some (.int (bz (sX0_isKind x1)))) (M)) := by
  refine Sp.of pn_X0 (Nat.le_of_ble_eq_true rfl) (fun h => Bool.noConfusion h) ?_
  refine aw_iload_n dX0_isKind_0 0 rfl ?_
  refine aw_if_lt 14 dX0_isKind_1 (by decide) (fun c1 => ?_) (fun c1 => ?_)
  · refine aw_iconst (v := 0) dX0_isKind_14 (by decide) ?_
    refine aw_zret dX0_isKind_15 rfl rfl (Nat.zero_le _) (Nat.zero_le _) ?_
    exact ⟨congrArg (fun z => some (Value.int (bz z))) (show sX0_isKind x1 = false by unfold sX0_isKind; rw [if_pos c1]).symm, rfl⟩
  · refine aw_iload_n dX0_isKind_4 0 rfl ?_
    refine aw_bipush (v := 7) dX0_isKind_5 (by decide) ?_
    refine aw_icmp_gt 14 dX0_isKind_7 (by decide) (fun c2 => ?_) (fun c2 => ?_)
    · refine aw_iconst (v := 0) dX0_isKind_14 (by decide) ?_
      refine aw_zret dX0_isKind_15 rfl rfl (Nat.zero_le _) (Nat.zero_le _) ?_
      exact ⟨congrArg (fun z => some (Value.int (bz z))) (show sX0_isKind x1 = false by unfold sX0_isKind; rw [if_neg c1, if_pos c2]).symm, rfl⟩
    · refine aw_iconst (v := 1) dX0_isKind_10 (by decide) ?_
      refine aw_goto 15 dX0_isKind_11 (by decide) ?_
      refine aw_zret dX0_isKind_15 rfl rfl (Nat.zero_le _) (Nat.zero_le _) ?_
      exact ⟨congrArg (fun z => some (Value.int (bz z))) (show sX0_isKind x1 = true by unfold sX0_isKind; rw [if_neg c1, if_neg c2]).symm, rfl⟩
def sX5_isSlot (x1 : Int64) : Bool := (if x1 < 0 then false else (if 12 ≤ x1 then false else true))
theorem sp_X5_isSlot {d : Nat} (hd : 0 ≤ d) {M : xM} (x1 : Int64)  : Sp (fX5_isSlot d) [.long x1] M (dt (some (.int (bz (sX5_isSlot x1)))) (M)) := by
  refine Sp.of pn_X5 (Nat.le_of_ble_eq_true rfl) (fun h => Bool.noConfusion h) ?_
  refine aw_lload_n dX5_isSlot_0 0 rfl ?_
  refine aw_lconst (v := 0) dX5_isSlot_1 (by decide) ?_
  refine aw_llt 18 dX5_isSlot_2 dX5_isSlot_3 (by decide) (fun c1 => ?_) (fun c1 => ?_)
  · refine aw_iconst (v := 0) dX5_isSlot_18 (by decide) ?_
    refine aw_zret dX5_isSlot_19 rfl rfl (Nat.zero_le _) (Nat.zero_le _) ?_
    exact ⟨congrArg (fun z => some (Value.int (bz z))) (show sX5_isSlot x1 = false by unfold sX5_isSlot; rw [if_pos c1]).symm, rfl⟩
  · refine aw_lload_n dX5_isSlot_6 0 rfl ?_
    refine aw_ldc2 dX5_isSlot_7 kc_X5_309 ?_
    refine aw_lge 18 dX5_isSlot_10 dX5_isSlot_11 (by decide) (fun c2 => ?_) (fun c2 => ?_)
    · refine aw_iconst (v := 0) dX5_isSlot_18 (by decide) ?_
      refine aw_zret dX5_isSlot_19 rfl rfl (Nat.zero_le _) (Nat.zero_le _) ?_
      exact ⟨congrArg (fun z => some (Value.int (bz z))) (show sX5_isSlot x1 = false by unfold sX5_isSlot; rw [if_neg c1, if_pos c2]).symm, rfl⟩
    · refine aw_iconst (v := 1) dX5_isSlot_14 (by decide) ?_
      refine aw_goto 19 dX5_isSlot_15 (by decide) ?_
      refine aw_zret dX5_isSlot_19 rfl rfl (Nat.zero_le _) (Nat.zero_le _) ?_
      exact ⟨congrArg (fun z => some (Value.int (bz z))) (show sX5_isSlot x1 = true by unfold sX5_isSlot; rw [if_neg c1, if_neg c2]).symm, rfl⟩
def sX5_isMode (x1 : Int32) : Bool := (if x1 < 0 then false else (if 2 < x1 then false else true))
theorem sp_X5_isMode {d : Nat} (hd : 0 ≤ d) {M : xM} (x1 : Int32)  : Sp (fX5_isMode d) [.int x1] M (dt (some (.int (bz (sX5_isMode x1)))) (M)) := by
  refine Sp.of pn_X5 (Nat.le_of_ble_eq_true rfl) (fun h => Bool.noConfusion h) ?_
  refine aw_iload_n dX5_isMode_0 0 rfl ?_
  refine aw_if_lt 13 dX5_isMode_1 (by decide) (fun c1 => ?_) (fun c1 => ?_)
  · refine aw_iconst (v := 0) dX5_isMode_13 (by decide) ?_
    refine aw_zret dX5_isMode_14 rfl rfl (Nat.zero_le _) (Nat.zero_le _) ?_
    exact ⟨congrArg (fun z => some (Value.int (bz z))) (show sX5_isMode x1 = false by unfold sX5_isMode; rw [if_pos c1]).symm, rfl⟩
  · refine aw_iload_n dX5_isMode_4 0 rfl ?_
    refine aw_iconst (v := 2) dX5_isMode_5 (by decide) ?_
    refine aw_icmp_gt 13 dX5_isMode_6 (by decide) (fun c2 => ?_) (fun c2 => ?_)
    · refine aw_iconst (v := 0) dX5_isMode_13 (by decide) ?_
      refine aw_zret dX5_isMode_14 rfl rfl (Nat.zero_le _) (Nat.zero_le _) ?_
      exact ⟨congrArg (fun z => some (Value.int (bz z))) (show sX5_isMode x1 = false by unfold sX5_isMode; rw [if_neg c1, if_pos c2]).symm, rfl⟩
    · refine aw_iconst (v := 1) dX5_isMode_9 (by decide) ?_
      refine aw_goto 14 dX5_isMode_10 (by decide) ?_
      refine aw_zret dX5_isMode_14 rfl rfl (Nat.zero_le _) (Nat.zero_le _) ?_
      exact ⟨congrArg (fun z => some (Value.int (bz z))) (show sX5_isMode x1 = true by unfold sX5_isMode; rw [if_neg c1, if_neg c2]).symm, rfl⟩
def sX5_has (x1 : Int32) (x2 : Int32) : Bool := (if ((x1 >>> (x2 &&& 31)) &&& 1) = 1 then true else false)
theorem sp_X5_has {d : Nat} (hd : 0 ≤ d) {M : xM} (x1 : Int32) (x2 : Int32)  : Sp (fX5_has d) [.int x1, .int x2] M (dt (some (.int (bz (sX5_has x1 x2)))) (M)) := by
  refine Sp.of pn_X5 (Nat.le_of_ble_eq_true rfl) (fun h => Bool.noConfusion h) ?_
  refine aw_iload_n dX5_has_0 0 rfl ?_
  refine aw_iload_n dX5_has_1 1 rfl ?_
  refine aw_ishr dX5_has_2 ?_
  refine aw_iconst (v := 1) dX5_has_3 (by decide) ?_
  refine aw_iand dX5_has_4 ?_
  refine aw_iconst (v := 1) dX5_has_5 (by decide) ?_
  refine aw_icmp_ne 13 dX5_has_6 (by decide) (fun c1 => ?_) (fun c1 => ?_)
  · refine aw_iconst (v := 0) dX5_has_13 (by decide) ?_
    refine aw_zret dX5_has_14 rfl rfl (Nat.zero_le _) (Nat.zero_le _) ?_
    exact ⟨congrArg (fun z => some (Value.int (bz z))) (show sX5_has x1 x2 = false by unfold sX5_has; rw [if_neg c1]).symm, rfl⟩
  · refine aw_iconst (v := 1) dX5_has_9 (by decide) ?_
    refine aw_goto 14 dX5_has_10 (by decide) ?_
    refine aw_zret dX5_has_14 rfl rfl (Nat.zero_le _) (Nat.zero_le _) ?_
    exact ⟨congrArg (fun z => some (Value.int (bz z))) (show sX5_has x1 x2 = true by unfold sX5_has; rw [if_pos c1]).symm, rfl⟩
def sX5_firstError (x1 : Int32) (x2 : Int32) : Int32 := (if x1 = 0 then x2 else (if x2 = 0 then x1 else if x1 < x2 then x2 else x1))
theorem sp_X5_firstError {d : Nat} (hd : 1 ≤ d) {M : xM} (x1 : Int32) (x2 : Int32)  : Sp (fX5_firstError d) [.int x1, .int x2] M (dt (some (.int (sX5_firstError x1 x2))) (M)) := by
  refine Sp.of pn_X5 (Nat.le_of_ble_eq_true rfl) (fun h => Bool.noConfusion h) ?_
  refine aw_iload_n dX5_firstError_0 0 rfl ?_
  refine aw_if_ne 6 dX5_firstError_1 (by decide) (fun c1 => ?_) (fun c1 => ?_)
  · refine aw_iload_n dX5_firstError_6 1 rfl ?_
    refine aw_if_ne 14 dX5_firstError_7 (by decide) (fun c2 => ?_) (fun c2 => ?_)
    · refine aw_iload_n dX5_firstError_14 0 rfl ?_
      refine aw_iload_n dX5_firstError_15 1 rfl ?_
      refine aw_mmax dX5_firstError_16 mm_X5_293 mm_maxs in_J9 mm_maxc (show 1 ≤ d by omega) (Nat.le_of_ble_eq_true rfl) (Nat.zero_le _) (Nat.zero_le _) ?_
      refine aw_iret dX5_firstError_19 rfl (Nat.zero_le _) (Nat.zero_le _) ?_
      exact ⟨congrArg (fun z => some (Value.int z)) (show sX5_firstError x1 x2 = if x1 < x2 then x2 else x1 by unfold sX5_firstError; rw [if_neg c1, if_neg c2]).symm, rfl⟩
    · refine aw_iload_n dX5_firstError_10 0 rfl ?_
      refine aw_goto 19 dX5_firstError_11 (by decide) ?_
      refine aw_iret dX5_firstError_19 rfl (Nat.zero_le _) (Nat.zero_le _) ?_
      exact ⟨congrArg (fun z => some (Value.int z)) (show sX5_firstError x1 x2 = x1 by unfold sX5_firstError; rw [if_neg c1, if_pos c2]).symm, rfl⟩
  · refine aw_iload_n dX5_firstError_4 1 rfl ?_
    refine aw_iret dX5_firstError_5 rfl (Nat.zero_le _) (Nat.zero_le _) ?_
    exact ⟨congrArg (fun z => some (Value.int z)) (show sX5_firstError x1 x2 = x2 by unfold sX5_firstError; rw [if_pos c1]).symm, rfl⟩
def sX1_isArrayTag (x1 : Int32) : Bool := (if x1 < 16 then (if x1 < 32 then (if x1 < 49 then false else (if 53 < x1 then false else true)) else (if x1 ≤ 39 then true else (if x1 < 49 then false else (if 53 < x1 then false else true)))) else (if x1 ≤ 29 then true else (if x1 < 32 then (if x1 < 49 then false else (if 53 < x1 then false else true)) else (if x1 ≤ 39 then true else (if x1 < 49 then false else (if 53 < x1 then false else true))))))
theorem sp_X1_isArrayTag {d : Nat} (hd : 0 ≤ d) {M : xM} (x1 : Int32)  : Sp (fX1_isArrayTag d) [.int x1] M (dt (some (.int (bz (sX1_isArrayTag x1)))) (M)) := by
  refine Sp.of pn_X1 (Nat.le_of_ble_eq_true rfl) (fun h => Bool.noConfusion h) ?_
  refine aw_iload_n dX1_isArrayTag_0 0 rfl ?_
  refine aw_bipush (v := 16) dX1_isArrayTag_1 (by decide) ?_
  refine aw_icmp_lt 12 dX1_isArrayTag_3 (by decide) (fun c1 => ?_) (fun c1 => ?_)
  · refine aw_iload_n dX1_isArrayTag_12 0 rfl ?_
    refine aw_bipush (v := 32) dX1_isArrayTag_13 (by decide) ?_
    refine aw_icmp_lt 24 dX1_isArrayTag_15 (by decide) (fun c2 => ?_) (fun c2 => ?_)
    · refine aw_iload_n dX1_isArrayTag_24 0 rfl ?_
      refine aw_bipush (v := 49) dX1_isArrayTag_25 (by decide) ?_
      refine aw_icmp_lt 40 dX1_isArrayTag_27 (by decide) (fun c3 => ?_) (fun c3 => ?_)
      · refine aw_iconst (v := 0) dX1_isArrayTag_40 (by decide) ?_
        refine aw_zret dX1_isArrayTag_41 rfl rfl (Nat.zero_le _) (Nat.zero_le _) ?_
        exact ⟨congrArg (fun z => some (Value.int (bz z))) (show sX1_isArrayTag x1 = false by unfold sX1_isArrayTag; rw [if_pos c1, if_pos c2, if_pos c3]).symm, rfl⟩
      · refine aw_iload_n dX1_isArrayTag_30 0 rfl ?_
        refine aw_bipush (v := 53) dX1_isArrayTag_31 (by decide) ?_
        refine aw_icmp_gt 40 dX1_isArrayTag_33 (by decide) (fun c4 => ?_) (fun c4 => ?_)
        · refine aw_iconst (v := 0) dX1_isArrayTag_40 (by decide) ?_
          refine aw_zret dX1_isArrayTag_41 rfl rfl (Nat.zero_le _) (Nat.zero_le _) ?_
          exact ⟨congrArg (fun z => some (Value.int (bz z))) (show sX1_isArrayTag x1 = false by unfold sX1_isArrayTag; rw [if_pos c1, if_pos c2, if_neg c3, if_pos c4]).symm, rfl⟩
        · refine aw_iconst (v := 1) dX1_isArrayTag_36 (by decide) ?_
          refine aw_goto 41 dX1_isArrayTag_37 (by decide) ?_
          refine aw_zret dX1_isArrayTag_41 rfl rfl (Nat.zero_le _) (Nat.zero_le _) ?_
          exact ⟨congrArg (fun z => some (Value.int (bz z))) (show sX1_isArrayTag x1 = true by unfold sX1_isArrayTag; rw [if_pos c1, if_pos c2, if_neg c3, if_neg c4]).symm, rfl⟩
    · refine aw_iload_n dX1_isArrayTag_18 0 rfl ?_
      refine aw_bipush (v := 39) dX1_isArrayTag_19 (by decide) ?_
      refine aw_icmp_le 36 dX1_isArrayTag_21 (by decide) (fun c5 => ?_) (fun c5 => ?_)
      · refine aw_iconst (v := 1) dX1_isArrayTag_36 (by decide) ?_
        refine aw_goto 41 dX1_isArrayTag_37 (by decide) ?_
        refine aw_zret dX1_isArrayTag_41 rfl rfl (Nat.zero_le _) (Nat.zero_le _) ?_
        exact ⟨congrArg (fun z => some (Value.int (bz z))) (show sX1_isArrayTag x1 = true by unfold sX1_isArrayTag; rw [if_pos c1, if_neg c2, if_pos c5]).symm, rfl⟩
      · refine aw_iload_n dX1_isArrayTag_24 0 rfl ?_
        refine aw_bipush (v := 49) dX1_isArrayTag_25 (by decide) ?_
        refine aw_icmp_lt 40 dX1_isArrayTag_27 (by decide) (fun c6 => ?_) (fun c6 => ?_)
        · refine aw_iconst (v := 0) dX1_isArrayTag_40 (by decide) ?_
          refine aw_zret dX1_isArrayTag_41 rfl rfl (Nat.zero_le _) (Nat.zero_le _) ?_
          exact ⟨congrArg (fun z => some (Value.int (bz z))) (show sX1_isArrayTag x1 = false by unfold sX1_isArrayTag; rw [if_pos c1, if_neg c2, if_neg c5, if_pos c6]).symm, rfl⟩
        · refine aw_iload_n dX1_isArrayTag_30 0 rfl ?_
          refine aw_bipush (v := 53) dX1_isArrayTag_31 (by decide) ?_
          refine aw_icmp_gt 40 dX1_isArrayTag_33 (by decide) (fun c7 => ?_) (fun c7 => ?_)
          · refine aw_iconst (v := 0) dX1_isArrayTag_40 (by decide) ?_
            refine aw_zret dX1_isArrayTag_41 rfl rfl (Nat.zero_le _) (Nat.zero_le _) ?_
            exact ⟨congrArg (fun z => some (Value.int (bz z))) (show sX1_isArrayTag x1 = false by unfold sX1_isArrayTag; rw [if_pos c1, if_neg c2, if_neg c5, if_neg c6, if_pos c7]).symm, rfl⟩
          · refine aw_iconst (v := 1) dX1_isArrayTag_36 (by decide) ?_
            refine aw_goto 41 dX1_isArrayTag_37 (by decide) ?_
            refine aw_zret dX1_isArrayTag_41 rfl rfl (Nat.zero_le _) (Nat.zero_le _) ?_
            exact ⟨congrArg (fun z => some (Value.int (bz z))) (show sX1_isArrayTag x1 = true by unfold sX1_isArrayTag; rw [if_pos c1, if_neg c2, if_neg c5, if_neg c6, if_neg c7]).symm, rfl⟩
  · refine aw_iload_n dX1_isArrayTag_6 0 rfl ?_
    refine aw_bipush (v := 29) dX1_isArrayTag_7 (by decide) ?_
    refine aw_icmp_le 36 dX1_isArrayTag_9 (by decide) (fun c8 => ?_) (fun c8 => ?_)
    · refine aw_iconst (v := 1) dX1_isArrayTag_36 (by decide) ?_
      refine aw_goto 41 dX1_isArrayTag_37 (by decide) ?_
      refine aw_zret dX1_isArrayTag_41 rfl rfl (Nat.zero_le _) (Nat.zero_le _) ?_
      exact ⟨congrArg (fun z => some (Value.int (bz z))) (show sX1_isArrayTag x1 = true by unfold sX1_isArrayTag; rw [if_neg c1, if_pos c8]).symm, rfl⟩
    · refine aw_iload_n dX1_isArrayTag_12 0 rfl ?_
      refine aw_bipush (v := 32) dX1_isArrayTag_13 (by decide) ?_
      refine aw_icmp_lt 24 dX1_isArrayTag_15 (by decide) (fun c9 => ?_) (fun c9 => ?_)
      · refine aw_iload_n dX1_isArrayTag_24 0 rfl ?_
        refine aw_bipush (v := 49) dX1_isArrayTag_25 (by decide) ?_
        refine aw_icmp_lt 40 dX1_isArrayTag_27 (by decide) (fun c10 => ?_) (fun c10 => ?_)
        · refine aw_iconst (v := 0) dX1_isArrayTag_40 (by decide) ?_
          refine aw_zret dX1_isArrayTag_41 rfl rfl (Nat.zero_le _) (Nat.zero_le _) ?_
          exact ⟨congrArg (fun z => some (Value.int (bz z))) (show sX1_isArrayTag x1 = false by unfold sX1_isArrayTag; rw [if_neg c1, if_neg c8, if_pos c9, if_pos c10]).symm, rfl⟩
        · refine aw_iload_n dX1_isArrayTag_30 0 rfl ?_
          refine aw_bipush (v := 53) dX1_isArrayTag_31 (by decide) ?_
          refine aw_icmp_gt 40 dX1_isArrayTag_33 (by decide) (fun c11 => ?_) (fun c11 => ?_)
          · refine aw_iconst (v := 0) dX1_isArrayTag_40 (by decide) ?_
            refine aw_zret dX1_isArrayTag_41 rfl rfl (Nat.zero_le _) (Nat.zero_le _) ?_
            exact ⟨congrArg (fun z => some (Value.int (bz z))) (show sX1_isArrayTag x1 = false by unfold sX1_isArrayTag; rw [if_neg c1, if_neg c8, if_pos c9, if_neg c10, if_pos c11]).symm, rfl⟩
          · refine aw_iconst (v := 1) dX1_isArrayTag_36 (by decide) ?_
            refine aw_goto 41 dX1_isArrayTag_37 (by decide) ?_
            refine aw_zret dX1_isArrayTag_41 rfl rfl (Nat.zero_le _) (Nat.zero_le _) ?_
            exact ⟨congrArg (fun z => some (Value.int (bz z))) (show sX1_isArrayTag x1 = true by unfold sX1_isArrayTag; rw [if_neg c1, if_neg c8, if_pos c9, if_neg c10, if_neg c11]).symm, rfl⟩
      · refine aw_iload_n dX1_isArrayTag_18 0 rfl ?_
        refine aw_bipush (v := 39) dX1_isArrayTag_19 (by decide) ?_
        refine aw_icmp_le 36 dX1_isArrayTag_21 (by decide) (fun c12 => ?_) (fun c12 => ?_)
        · refine aw_iconst (v := 1) dX1_isArrayTag_36 (by decide) ?_
          refine aw_goto 41 dX1_isArrayTag_37 (by decide) ?_
          refine aw_zret dX1_isArrayTag_41 rfl rfl (Nat.zero_le _) (Nat.zero_le _) ?_
          exact ⟨congrArg (fun z => some (Value.int (bz z))) (show sX1_isArrayTag x1 = true by unfold sX1_isArrayTag; rw [if_neg c1, if_neg c8, if_neg c9, if_pos c12]).symm, rfl⟩
        · refine aw_iload_n dX1_isArrayTag_24 0 rfl ?_
          refine aw_bipush (v := 49) dX1_isArrayTag_25 (by decide) ?_
          refine aw_icmp_lt 40 dX1_isArrayTag_27 (by decide) (fun c13 => ?_) (fun c13 => ?_)
          · refine aw_iconst (v := 0) dX1_isArrayTag_40 (by decide) ?_
            refine aw_zret dX1_isArrayTag_41 rfl rfl (Nat.zero_le _) (Nat.zero_le _) ?_
            exact ⟨congrArg (fun z => some (Value.int (bz z))) (show sX1_isArrayTag x1 = false by unfold sX1_isArrayTag; rw [if_neg c1, if_neg c8, if_neg c9, if_neg c12, if_pos c13]).symm, rfl⟩
          · refine aw_iload_n dX1_isArrayTag_30 0 rfl ?_
            refine aw_bipush (v := 53) dX1_isArrayTag_31 (by decide) ?_
            refine aw_icmp_gt 40 dX1_isArrayTag_33 (by decide) (fun c14 => ?_) (fun c14 => ?_)
            · refine aw_iconst (v := 0) dX1_isArrayTag_40 (by decide) ?_
              refine aw_zret dX1_isArrayTag_41 rfl rfl (Nat.zero_le _) (Nat.zero_le _) ?_
              exact ⟨congrArg (fun z => some (Value.int (bz z))) (show sX1_isArrayTag x1 = false by unfold sX1_isArrayTag; rw [if_neg c1, if_neg c8, if_neg c9, if_neg c12, if_neg c13, if_pos c14]).symm, rfl⟩
            · refine aw_iconst (v := 1) dX1_isArrayTag_36 (by decide) ?_
              refine aw_goto 41 dX1_isArrayTag_37 (by decide) ?_
              refine aw_zret dX1_isArrayTag_41 rfl rfl (Nat.zero_le _) (Nat.zero_le _) ?_
              exact ⟨congrArg (fun z => some (Value.int (bz z))) (show sX1_isArrayTag x1 = true by unfold sX1_isArrayTag; rw [if_neg c1, if_neg c8, if_neg c9, if_neg c12, if_neg c13, if_neg c14]).symm, rfl⟩
def sX1_mayStand (x1 : Int32) (x2 : Int32) : Bool := (if x2 = 11 then true else (if x1 = 8 then (if x2 = 4 then true else false) else (if x1 = 9 then (if x2 = 8 then true else false) else (if x1 = 10 then (if x2 = 9 then true else false) else (if x1 = 11 then (if x2 = 9 then true else false) else (if x1 = 13 then (if x2 = 10 then true else (if (bz (sX1_isArrayTag x2)) = 0 then false else (if (x2 &&& 15) = 4 then true else false))) else (if x1 = 12 then (if x2 < 0 then (if (bz (sX1_isArrayTag x2)) = 0 then false else true) else (if x2 < 11 then true else (if (bz (sX1_isArrayTag x2)) = 0 then false else true))) else (if x2 < 0 then (if (bz (sX1_isArrayTag x2)) = 0 then false else true) else (if x2 < 11 then true else (if (bz (sX1_isArrayTag x2)) = 0 then false else true))))))))))
theorem sp_X1_mayStand {d : Nat} (hd : 1 ≤ d) {M : xM} (x1 : Int32) (x2 : Int32)  : Sp (fX1_mayStand d) [.int x1, .int x2] M (dt (some (.int (bz (sX1_mayStand x1 x2)))) (M)) := by
  refine Sp.of pn_X1 (Nat.le_of_ble_eq_true rfl) (fun h => Bool.noConfusion h) ?_
  refine aw_iload_n dX1_mayStand_0 1 rfl ?_
  refine aw_bipush (v := 11) dX1_mayStand_1 (by decide) ?_
  refine aw_icmp_ne 8 dX1_mayStand_3 (by decide) (fun c1 => ?_) (fun c1 => ?_)
  · refine aw_iload_n dX1_mayStand_8 0 rfl ?_
    by_cases c2 : x1 = 8
    · refine aw_tableIn 48 dX1_mayStand_9 (by rw [c2]; decide) (by rw [c2]; decide) (by rw [c2]; rfl) (by decide) ?_
      refine aw_iload_n dX1_mayStand_48 1 rfl ?_
      refine aw_iconst (v := 4) dX1_mayStand_49 (by decide) ?_
      refine aw_icmp_ne 57 dX1_mayStand_50 (by decide) (fun c3 => ?_) (fun c3 => ?_)
      · refine aw_iconst (v := 0) dX1_mayStand_57 (by decide) ?_
        refine aw_zret dX1_mayStand_58 rfl rfl (Nat.zero_le _) (Nat.zero_le _) ?_
        exact ⟨congrArg (fun z => some (Value.int (bz z))) (show sX1_mayStand x1 x2 = false by unfold sX1_mayStand; rw [if_neg c1, if_pos c2, if_neg c3]).symm, rfl⟩
      · refine aw_iconst (v := 1) dX1_mayStand_53 (by decide) ?_
        refine aw_goto 58 dX1_mayStand_54 (by decide) ?_
        refine aw_zret dX1_mayStand_58 rfl rfl (Nat.zero_le _) (Nat.zero_le _) ?_
        exact ⟨congrArg (fun z => some (Value.int (bz z))) (show sX1_mayStand x1 x2 = true by unfold sX1_mayStand; rw [if_neg c1, if_pos c2, if_pos c3]).symm, rfl⟩
    by_cases c4 : x1 = 9
    · refine aw_tableIn 59 dX1_mayStand_9 (by rw [c4]; decide) (by rw [c4]; decide) (by rw [c4]; rfl) (by decide) ?_
      refine aw_iload_n dX1_mayStand_59 1 rfl ?_
      refine aw_bipush (v := 8) dX1_mayStand_60 (by decide) ?_
      refine aw_icmp_ne 69 dX1_mayStand_62 (by decide) (fun c5 => ?_) (fun c5 => ?_)
      · refine aw_iconst (v := 0) dX1_mayStand_69 (by decide) ?_
        refine aw_zret dX1_mayStand_70 rfl rfl (Nat.zero_le _) (Nat.zero_le _) ?_
        exact ⟨congrArg (fun z => some (Value.int (bz z))) (show sX1_mayStand x1 x2 = false by unfold sX1_mayStand; rw [if_neg c1, if_neg c2, if_pos c4, if_neg c5]).symm, rfl⟩
      · refine aw_iconst (v := 1) dX1_mayStand_65 (by decide) ?_
        refine aw_goto 70 dX1_mayStand_66 (by decide) ?_
        refine aw_zret dX1_mayStand_70 rfl rfl (Nat.zero_le _) (Nat.zero_le _) ?_
        exact ⟨congrArg (fun z => some (Value.int (bz z))) (show sX1_mayStand x1 x2 = true by unfold sX1_mayStand; rw [if_neg c1, if_neg c2, if_pos c4, if_pos c5]).symm, rfl⟩
    by_cases c6 : x1 = 10
    · refine aw_tableIn 71 dX1_mayStand_9 (by rw [c6]; decide) (by rw [c6]; decide) (by rw [c6]; rfl) (by decide) ?_
      refine aw_iload_n dX1_mayStand_71 1 rfl ?_
      refine aw_bipush (v := 9) dX1_mayStand_72 (by decide) ?_
      refine aw_icmp_ne 81 dX1_mayStand_74 (by decide) (fun c7 => ?_) (fun c7 => ?_)
      · refine aw_iconst (v := 0) dX1_mayStand_81 (by decide) ?_
        refine aw_zret dX1_mayStand_82 rfl rfl (Nat.zero_le _) (Nat.zero_le _) ?_
        exact ⟨congrArg (fun z => some (Value.int (bz z))) (show sX1_mayStand x1 x2 = false by unfold sX1_mayStand; rw [if_neg c1, if_neg c2, if_neg c4, if_pos c6, if_neg c7]).symm, rfl⟩
      · refine aw_iconst (v := 1) dX1_mayStand_77 (by decide) ?_
        refine aw_goto 82 dX1_mayStand_78 (by decide) ?_
        refine aw_zret dX1_mayStand_82 rfl rfl (Nat.zero_le _) (Nat.zero_le _) ?_
        exact ⟨congrArg (fun z => some (Value.int (bz z))) (show sX1_mayStand x1 x2 = true by unfold sX1_mayStand; rw [if_neg c1, if_neg c2, if_neg c4, if_pos c6, if_pos c7]).symm, rfl⟩
    by_cases c8 : x1 = 11
    · refine aw_tableIn 83 dX1_mayStand_9 (by rw [c8]; decide) (by rw [c8]; decide) (by rw [c8]; rfl) (by decide) ?_
      refine aw_iload_n dX1_mayStand_83 1 rfl ?_
      refine aw_bipush (v := 9) dX1_mayStand_84 (by decide) ?_
      refine aw_icmp_ne 93 dX1_mayStand_86 (by decide) (fun c9 => ?_) (fun c9 => ?_)
      · refine aw_iconst (v := 0) dX1_mayStand_93 (by decide) ?_
        refine aw_zret dX1_mayStand_94 rfl rfl (Nat.zero_le _) (Nat.zero_le _) ?_
        exact ⟨congrArg (fun z => some (Value.int (bz z))) (show sX1_mayStand x1 x2 = false by unfold sX1_mayStand; rw [if_neg c1, if_neg c2, if_neg c4, if_neg c6, if_pos c8, if_neg c9]).symm, rfl⟩
      · refine aw_iconst (v := 1) dX1_mayStand_89 (by decide) ?_
        refine aw_goto 94 dX1_mayStand_90 (by decide) ?_
        refine aw_zret dX1_mayStand_94 rfl rfl (Nat.zero_le _) (Nat.zero_le _) ?_
        exact ⟨congrArg (fun z => some (Value.int (bz z))) (show sX1_mayStand x1 x2 = true by unfold sX1_mayStand; rw [if_neg c1, if_neg c2, if_neg c4, if_neg c6, if_pos c8, if_pos c9]).symm, rfl⟩
    by_cases c10 : x1 = 13
    · refine aw_tableIn 95 dX1_mayStand_9 (by rw [c10]; decide) (by rw [c10]; decide) (by rw [c10]; rfl) (by decide) ?_
      refine aw_iload_n dX1_mayStand_95 1 rfl ?_
      refine aw_bipush (v := 10) dX1_mayStand_96 (by decide) ?_
      refine aw_icmp_eq 116 dX1_mayStand_98 (by decide) (fun c11 => ?_) (fun c11 => ?_)
      · refine aw_iconst (v := 1) dX1_mayStand_116 (by decide) ?_
        refine aw_goto 121 dX1_mayStand_117 (by decide) ?_
        refine aw_zret dX1_mayStand_121 rfl rfl (Nat.zero_le _) (Nat.zero_le _) ?_
        exact ⟨congrArg (fun z => some (Value.int (bz z))) (show sX1_mayStand x1 x2 = true by unfold sX1_mayStand; rw [if_neg c1, if_neg c2, if_neg c4, if_neg c6, if_neg c8, if_pos c10, if_pos c11]).symm, rfl⟩
      · refine aw_iload_n dX1_mayStand_101 1 rfl ?_
        refine aw_callSi [.int x2] [] (sp_X1_isArrayTag (d := d - 1) (by omega) x2 ) dX1_mayStand_102 ml_X1_42 sm_X1_isArrayTag rfl (dl1 (d := d) (by omega)) rfl rfl (Nat.le_of_ble_eq_true rfl) rfl rfl (Nat.zero_le _) (Nat.zero_le _) ?_
        refine aw_if_eq 120 dX1_mayStand_105 (by decide) (fun c12 => ?_) (fun c12 => ?_)
        · refine aw_iconst (v := 0) dX1_mayStand_120 (by decide) ?_
          refine aw_zret dX1_mayStand_121 rfl rfl (Nat.zero_le _) (Nat.zero_le _) ?_
          exact ⟨congrArg (fun z => some (Value.int (bz z))) (show sX1_mayStand x1 x2 = false by unfold sX1_mayStand; rw [if_neg c1, if_neg c2, if_neg c4, if_neg c6, if_neg c8, if_pos c10, if_neg c11, if_pos c12]).symm, rfl⟩
        · refine aw_iload_n dX1_mayStand_108 1 rfl ?_
          refine aw_bipush (v := 15) dX1_mayStand_109 (by decide) ?_
          refine aw_iand dX1_mayStand_111 ?_
          refine aw_iconst (v := 4) dX1_mayStand_112 (by decide) ?_
          refine aw_icmp_ne 120 dX1_mayStand_113 (by decide) (fun c13 => ?_) (fun c13 => ?_)
          · refine aw_iconst (v := 0) dX1_mayStand_120 (by decide) ?_
            refine aw_zret dX1_mayStand_121 rfl rfl (Nat.zero_le _) (Nat.zero_le _) ?_
            exact ⟨congrArg (fun z => some (Value.int (bz z))) (show sX1_mayStand x1 x2 = false by unfold sX1_mayStand; rw [if_neg c1, if_neg c2, if_neg c4, if_neg c6, if_neg c8, if_pos c10, if_neg c11, if_neg c12, if_neg c13]).symm, rfl⟩
          · refine aw_iconst (v := 1) dX1_mayStand_116 (by decide) ?_
            refine aw_goto 121 dX1_mayStand_117 (by decide) ?_
            refine aw_zret dX1_mayStand_121 rfl rfl (Nat.zero_le _) (Nat.zero_le _) ?_
            exact ⟨congrArg (fun z => some (Value.int (bz z))) (show sX1_mayStand x1 x2 = true by unfold sX1_mayStand; rw [if_neg c1, if_neg c2, if_neg c4, if_neg c6, if_neg c8, if_pos c10, if_neg c11, if_neg c12, if_pos c13]).symm, rfl⟩
    by_cases c14 : x1 = 12
    · refine aw_tableIn 122 dX1_mayStand_9 (by rw [c14]; decide) (by rw [c14]; decide) (by rw [c14]; rfl) (by decide) ?_
      refine aw_iload_n dX1_mayStand_122 1 rfl ?_
      refine aw_if_lt 132 dX1_mayStand_123 (by decide) (fun c15 => ?_) (fun c15 => ?_)
      · refine aw_iload_n dX1_mayStand_132 1 rfl ?_
        refine aw_callSi [.int x2] [] (sp_X1_isArrayTag (d := d - 1) (by omega) x2 ) dX1_mayStand_133 ml_X1_42 sm_X1_isArrayTag rfl (dl1 (d := d) (by omega)) rfl rfl (Nat.le_of_ble_eq_true rfl) rfl rfl (Nat.zero_le _) (Nat.zero_le _) ?_
        refine aw_if_eq 143 dX1_mayStand_136 (by decide) (fun c16 => ?_) (fun c16 => ?_)
        · refine aw_iconst (v := 0) dX1_mayStand_143 (by decide) ?_
          refine aw_zret dX1_mayStand_144 rfl rfl (Nat.zero_le _) (Nat.zero_le _) ?_
          exact ⟨congrArg (fun z => some (Value.int (bz z))) (show sX1_mayStand x1 x2 = false by unfold sX1_mayStand; rw [if_neg c1, if_neg c2, if_neg c4, if_neg c6, if_neg c8, if_neg c10, if_pos c14, if_pos c15, if_pos c16]).symm, rfl⟩
        · refine aw_iconst (v := 1) dX1_mayStand_139 (by decide) ?_
          refine aw_goto 144 dX1_mayStand_140 (by decide) ?_
          refine aw_zret dX1_mayStand_144 rfl rfl (Nat.zero_le _) (Nat.zero_le _) ?_
          exact ⟨congrArg (fun z => some (Value.int (bz z))) (show sX1_mayStand x1 x2 = true by unfold sX1_mayStand; rw [if_neg c1, if_neg c2, if_neg c4, if_neg c6, if_neg c8, if_neg c10, if_pos c14, if_pos c15, if_neg c16]).symm, rfl⟩
      · refine aw_iload_n dX1_mayStand_126 1 rfl ?_
        refine aw_bipush (v := 11) dX1_mayStand_127 (by decide) ?_
        refine aw_icmp_lt 139 dX1_mayStand_129 (by decide) (fun c17 => ?_) (fun c17 => ?_)
        · refine aw_iconst (v := 1) dX1_mayStand_139 (by decide) ?_
          refine aw_goto 144 dX1_mayStand_140 (by decide) ?_
          refine aw_zret dX1_mayStand_144 rfl rfl (Nat.zero_le _) (Nat.zero_le _) ?_
          exact ⟨congrArg (fun z => some (Value.int (bz z))) (show sX1_mayStand x1 x2 = true by unfold sX1_mayStand; rw [if_neg c1, if_neg c2, if_neg c4, if_neg c6, if_neg c8, if_neg c10, if_pos c14, if_neg c15, if_pos c17]).symm, rfl⟩
        · refine aw_iload_n dX1_mayStand_132 1 rfl ?_
          refine aw_callSi [.int x2] [] (sp_X1_isArrayTag (d := d - 1) (by omega) x2 ) dX1_mayStand_133 ml_X1_42 sm_X1_isArrayTag rfl (dl1 (d := d) (by omega)) rfl rfl (Nat.le_of_ble_eq_true rfl) rfl rfl (Nat.zero_le _) (Nat.zero_le _) ?_
          refine aw_if_eq 143 dX1_mayStand_136 (by decide) (fun c18 => ?_) (fun c18 => ?_)
          · refine aw_iconst (v := 0) dX1_mayStand_143 (by decide) ?_
            refine aw_zret dX1_mayStand_144 rfl rfl (Nat.zero_le _) (Nat.zero_le _) ?_
            exact ⟨congrArg (fun z => some (Value.int (bz z))) (show sX1_mayStand x1 x2 = false by unfold sX1_mayStand; rw [if_neg c1, if_neg c2, if_neg c4, if_neg c6, if_neg c8, if_neg c10, if_pos c14, if_neg c15, if_neg c17, if_pos c18]).symm, rfl⟩
          · refine aw_iconst (v := 1) dX1_mayStand_139 (by decide) ?_
            refine aw_goto 144 dX1_mayStand_140 (by decide) ?_
            refine aw_zret dX1_mayStand_144 rfl rfl (Nat.zero_le _) (Nat.zero_le _) ?_
            exact ⟨congrArg (fun z => some (Value.int (bz z))) (show sX1_mayStand x1 x2 = true by unfold sX1_mayStand; rw [if_neg c1, if_neg c2, if_neg c4, if_neg c6, if_neg c8, if_neg c10, if_pos c14, if_neg c15, if_neg c17, if_neg c18]).symm, rfl⟩
    refine aw_tableOut 122 dX1_mayStand_9 (by have ec2 : ¬ (Int32.toInt x1) = 8 := fun z => c2 (Int32.toInt_inj.mp (z.trans rfl)); have ec4 : ¬ (Int32.toInt x1) = 9 := fun z => c4 (Int32.toInt_inj.mp (z.trans rfl)); have ec6 : ¬ (Int32.toInt x1) = 10 := fun z => c6 (Int32.toInt_inj.mp (z.trans rfl)); have ec8 : ¬ (Int32.toInt x1) = 11 := fun z => c8 (Int32.toInt_inj.mp (z.trans rfl)); have ec10 : ¬ (Int32.toInt x1) = 13 := fun z => c10 (Int32.toInt_inj.mp (z.trans rfl)); have ec14 : ¬ (Int32.toInt x1) = 12 := fun z => c14 (Int32.toInt_inj.mp (z.trans rfl)); omega) (by decide) ?_
    refine aw_iload_n dX1_mayStand_122 1 rfl ?_
    refine aw_if_lt 132 dX1_mayStand_123 (by decide) (fun c19 => ?_) (fun c19 => ?_)
    · refine aw_iload_n dX1_mayStand_132 1 rfl ?_
      refine aw_callSi [.int x2] [] (sp_X1_isArrayTag (d := d - 1) (by omega) x2 ) dX1_mayStand_133 ml_X1_42 sm_X1_isArrayTag rfl (dl1 (d := d) (by omega)) rfl rfl (Nat.le_of_ble_eq_true rfl) rfl rfl (Nat.zero_le _) (Nat.zero_le _) ?_
      refine aw_if_eq 143 dX1_mayStand_136 (by decide) (fun c20 => ?_) (fun c20 => ?_)
      · refine aw_iconst (v := 0) dX1_mayStand_143 (by decide) ?_
        refine aw_zret dX1_mayStand_144 rfl rfl (Nat.zero_le _) (Nat.zero_le _) ?_
        exact ⟨congrArg (fun z => some (Value.int (bz z))) (show sX1_mayStand x1 x2 = false by unfold sX1_mayStand; rw [if_neg c1, if_neg c2, if_neg c4, if_neg c6, if_neg c8, if_neg c10, if_neg c14, if_pos c19, if_pos c20]).symm, rfl⟩
      · refine aw_iconst (v := 1) dX1_mayStand_139 (by decide) ?_
        refine aw_goto 144 dX1_mayStand_140 (by decide) ?_
        refine aw_zret dX1_mayStand_144 rfl rfl (Nat.zero_le _) (Nat.zero_le _) ?_
        exact ⟨congrArg (fun z => some (Value.int (bz z))) (show sX1_mayStand x1 x2 = true by unfold sX1_mayStand; rw [if_neg c1, if_neg c2, if_neg c4, if_neg c6, if_neg c8, if_neg c10, if_neg c14, if_pos c19, if_neg c20]).symm, rfl⟩
    · refine aw_iload_n dX1_mayStand_126 1 rfl ?_
      refine aw_bipush (v := 11) dX1_mayStand_127 (by decide) ?_
      refine aw_icmp_lt 139 dX1_mayStand_129 (by decide) (fun c21 => ?_) (fun c21 => ?_)
      · refine aw_iconst (v := 1) dX1_mayStand_139 (by decide) ?_
        refine aw_goto 144 dX1_mayStand_140 (by decide) ?_
        refine aw_zret dX1_mayStand_144 rfl rfl (Nat.zero_le _) (Nat.zero_le _) ?_
        exact ⟨congrArg (fun z => some (Value.int (bz z))) (show sX1_mayStand x1 x2 = true by unfold sX1_mayStand; rw [if_neg c1, if_neg c2, if_neg c4, if_neg c6, if_neg c8, if_neg c10, if_neg c14, if_neg c19, if_pos c21]).symm, rfl⟩
      · refine aw_iload_n dX1_mayStand_132 1 rfl ?_
        refine aw_callSi [.int x2] [] (sp_X1_isArrayTag (d := d - 1) (by omega) x2 ) dX1_mayStand_133 ml_X1_42 sm_X1_isArrayTag rfl (dl1 (d := d) (by omega)) rfl rfl (Nat.le_of_ble_eq_true rfl) rfl rfl (Nat.zero_le _) (Nat.zero_le _) ?_
        refine aw_if_eq 143 dX1_mayStand_136 (by decide) (fun c22 => ?_) (fun c22 => ?_)
        · refine aw_iconst (v := 0) dX1_mayStand_143 (by decide) ?_
          refine aw_zret dX1_mayStand_144 rfl rfl (Nat.zero_le _) (Nat.zero_le _) ?_
          exact ⟨congrArg (fun z => some (Value.int (bz z))) (show sX1_mayStand x1 x2 = false by unfold sX1_mayStand; rw [if_neg c1, if_neg c2, if_neg c4, if_neg c6, if_neg c8, if_neg c10, if_neg c14, if_neg c19, if_neg c21, if_pos c22]).symm, rfl⟩
        · refine aw_iconst (v := 1) dX1_mayStand_139 (by decide) ?_
          refine aw_goto 144 dX1_mayStand_140 (by decide) ?_
          refine aw_zret dX1_mayStand_144 rfl rfl (Nat.zero_le _) (Nat.zero_le _) ?_
          exact ⟨congrArg (fun z => some (Value.int (bz z))) (show sX1_mayStand x1 x2 = true by unfold sX1_mayStand; rw [if_neg c1, if_neg c2, if_neg c4, if_neg c6, if_neg c8, if_neg c10, if_neg c14, if_neg c19, if_neg c21, if_neg c22]).symm, rfl⟩
  · refine aw_iconst (v := 1) dX1_mayStand_6 (by decide) ?_
    refine aw_zret dX1_mayStand_7 rfl rfl (Nat.zero_le _) (Nat.zero_le _) ?_
    exact ⟨congrArg (fun z => some (Value.int (bz z))) (show sX1_mayStand x1 x2 = true by unfold sX1_mayStand; rw [if_pos c1]).symm, rfl⟩
def sX2_isEmpty (M : xM) (a : Nat)  : Bool := (if (mI M a 0) = (-1) then true else false)
theorem sp_X2_isEmpty {d : Nat} (hd : 0 ≤ d) {M : xM} {a : Nat}  (hR : RowAt M a)  : Sp (fX2_isEmpty d) [.ref a] M (dt (some (.int (bz (sX2_isEmpty M a)))) (M)) := by
  refine Sp.of pn_X2 (Nat.le_of_ble_eq_true rfl) (fun h => Bool.noConfusion h) ?_
  refine aw_aload_n dX2_isEmpty_0 0 rfl ?_
  refine aw_getI dX2_isEmpty_1 fl_X2_9 hR.1 hR.n0 ?_
  refine aw_iconst (v := -1) dX2_isEmpty_4 (by decide) ?_
  refine aw_icmp_ne 12 dX2_isEmpty_5 (by decide) (fun c1 => ?_) (fun c1 => ?_)
  · refine aw_iconst (v := 0) dX2_isEmpty_12 (by decide) ?_
    refine aw_zret dX2_isEmpty_13 rfl rfl (Nat.zero_le _) (Nat.zero_le _) ?_
    exact ⟨congrArg (fun z => some (Value.int (bz z))) (show sX2_isEmpty M a = false by unfold sX2_isEmpty; rw [if_neg c1]).symm, rfl⟩
  · refine aw_iconst (v := 1) dX2_isEmpty_8 (by decide) ?_
    refine aw_goto 13 dX2_isEmpty_9 (by decide) ?_
    refine aw_zret dX2_isEmpty_13 rfl rfl (Nat.zero_le _) (Nat.zero_le _) ?_
    exact ⟨congrArg (fun z => some (Value.int (bz z))) (show sX2_isEmpty M a = true by unfold sX2_isEmpty; rw [if_pos c1]).symm, rfl⟩
def sX2_isArray (M : xM) (a : Nat)  : Bool := (if (mI M a 0) < 0 then false else (if 13 < (mI M a 0) then false else true))
theorem sp_X2_isArray {d : Nat} (hd : 0 ≤ d) {M : xM} {a : Nat}  (hR : RowAt M a)  : Sp (fX2_isArray d) [.ref a] M (dt (some (.int (bz (sX2_isArray M a)))) (M)) := by
  refine Sp.of pn_X2 (Nat.le_of_ble_eq_true rfl) (fun h => Bool.noConfusion h) ?_
  refine aw_aload_n dX2_isArray_0 0 rfl ?_
  refine aw_getI dX2_isArray_1 fl_X2_9 hR.1 hR.n0 ?_
  refine aw_if_lt 20 dX2_isArray_4 (by decide) (fun c1 => ?_) (fun c1 => ?_)
  · refine aw_iconst (v := 0) dX2_isArray_20 (by decide) ?_
    refine aw_zret dX2_isArray_21 rfl rfl (Nat.zero_le _) (Nat.zero_le _) ?_
    exact ⟨congrArg (fun z => some (Value.int (bz z))) (show sX2_isArray M a = false by unfold sX2_isArray; rw [if_pos c1]).symm, rfl⟩
  · refine aw_aload_n dX2_isArray_7 0 rfl ?_
    refine aw_getI dX2_isArray_8 fl_X2_9 hR.1 hR.n0 ?_
    refine aw_bipush (v := 13) dX2_isArray_11 (by decide) ?_
    refine aw_icmp_gt 20 dX2_isArray_13 (by decide) (fun c2 => ?_) (fun c2 => ?_)
    · refine aw_iconst (v := 0) dX2_isArray_20 (by decide) ?_
      refine aw_zret dX2_isArray_21 rfl rfl (Nat.zero_le _) (Nat.zero_le _) ?_
      exact ⟨congrArg (fun z => some (Value.int (bz z))) (show sX2_isArray M a = false by unfold sX2_isArray; rw [if_neg c1, if_pos c2]).symm, rfl⟩
    · refine aw_iconst (v := 1) dX2_isArray_16 (by decide) ?_
      refine aw_goto 21 dX2_isArray_17 (by decide) ?_
      refine aw_zret dX2_isArray_21 rfl rfl (Nat.zero_le _) (Nat.zero_le _) ?_
      exact ⟨congrArg (fun z => some (Value.int (bz z))) (show sX2_isArray M a = true by unfold sX2_isArray; rw [if_neg c1, if_neg c2]).symm, rfl⟩
def sX2_isPrimitive (M : xM) (a : Nat)  : Bool := (sX0_isKind (mI M a 0))
theorem sp_X2_isPrimitive {d : Nat} (hd : 1 ≤ d) {M : xM} {a : Nat}  (hR : RowAt M a)  : Sp (fX2_isPrimitive d) [.ref a] M (dt (some (.int (bz (sX2_isPrimitive M a)))) (M)) := by
  refine Sp.of pn_X2 (Nat.le_of_ble_eq_true rfl) (fun h => Bool.noConfusion h) ?_
  refine aw_aload_n dX2_isPrimitive_0 0 rfl ?_
  refine aw_getI dX2_isPrimitive_1 fl_X2_9 hR.1 hR.n0 ?_
  refine aw_callSi [.int (mI M a 0)] [] (sp_X0_isKind (d := d - 1) (by omega) (mI M a 0) ) dX2_isPrimitive_4 ml_X2_26 sm_X0_isKind rfl (dl1 (d := d) (by omega)) rfl rfl (Nat.le_of_ble_eq_true rfl) rfl rfl (Nat.zero_le _) (Nat.zero_le _) ?_
  refine aw_zret dX2_isPrimitive_7 rfl narrow_bz (Nat.zero_le _) (Nat.zero_le _) ?_
  exact ⟨congrArg (fun z => some (Value.int (bz z))) (rfl : (sX0_isKind (mI M a 0)) = sX2_isPrimitive M a), rfl⟩
def sX2_hasPlace (M : xM) (a : Nat) (x1 : Int32) : Bool := (if x1 < 0 then false else (if (mI M a 1) ≤ x1 then false else true))
theorem sp_X2_hasPlace {d : Nat} (hd : 0 ≤ d) {M : xM} {a : Nat} (x1 : Int32) (hR : RowAt M a)  : Sp (fX2_hasPlace d) [.ref a, .int x1] M (dt (some (.int (bz (sX2_hasPlace M a x1)))) (M)) := by
  refine Sp.of pn_X2 (Nat.le_of_ble_eq_true rfl) (fun h => Bool.noConfusion h) ?_
  refine aw_iload_n dX2_hasPlace_0 1 rfl ?_
  refine aw_if_lt 16 dX2_hasPlace_1 (by decide) (fun c1 => ?_) (fun c1 => ?_)
  · refine aw_iconst (v := 0) dX2_hasPlace_16 (by decide) ?_
    refine aw_zret dX2_hasPlace_17 rfl rfl (Nat.zero_le _) (Nat.zero_le _) ?_
    exact ⟨congrArg (fun z => some (Value.int (bz z))) (show sX2_hasPlace M a x1 = false by unfold sX2_hasPlace; rw [if_pos c1]).symm, rfl⟩
  · refine aw_iload_n dX2_hasPlace_4 1 rfl ?_
    refine aw_aload_n dX2_hasPlace_5 0 rfl ?_
    refine aw_getI dX2_hasPlace_6 fl_X2_15 hR.1 hR.n0 ?_
    refine aw_icmp_ge 16 dX2_hasPlace_9 (by decide) (fun c2 => ?_) (fun c2 => ?_)
    · refine aw_iconst (v := 0) dX2_hasPlace_16 (by decide) ?_
      refine aw_zret dX2_hasPlace_17 rfl rfl (Nat.zero_le _) (Nat.zero_le _) ?_
      exact ⟨congrArg (fun z => some (Value.int (bz z))) (show sX2_hasPlace M a x1 = false by unfold sX2_hasPlace; rw [if_neg c1, if_pos c2]).symm, rfl⟩
    · refine aw_iconst (v := 1) dX2_hasPlace_12 (by decide) ?_
      refine aw_goto 17 dX2_hasPlace_13 (by decide) ?_
      refine aw_zret dX2_hasPlace_17 rfl rfl (Nat.zero_le _) (Nat.zero_le _) ?_
      exact ⟨congrArg (fun z => some (Value.int (bz z))) (show sX2_hasPlace M a x1 = true by unfold sX2_hasPlace; rw [if_neg c1, if_neg c2]).symm, rfl⟩
def sX3_has (M : xM) (a : Nat) (x1 : Int32) : Bool := (if x1 < 0 then false else (if (mI M a 1) ≤ x1 then false else true))
theorem sp_X3_has {d : Nat} (hd : 0 ≤ d) {M : xM} {a : Nat} {n : Nat} (x1 : Int32) (hR : StripAt M a n)  : Sp (fX3_has d) [.ref a, .int x1] M (dt (some (.int (bz (sX3_has M a x1)))) (M)) := by
  refine Sp.of pn_X3 (Nat.le_of_ble_eq_true rfl) (fun h => Bool.noConfusion h) ?_
  refine aw_iload_n dX3_has_0 1 rfl ?_
  refine aw_if_lt 16 dX3_has_1 (by decide) (fun c1 => ?_) (fun c1 => ?_)
  · refine aw_iconst (v := 0) dX3_has_16 (by decide) ?_
    refine aw_zret dX3_has_17 rfl rfl (Nat.zero_le _) (Nat.zero_le _) ?_
    exact ⟨congrArg (fun z => some (Value.int (bz z))) (show sX3_has M a x1 = false by unfold sX3_has; rw [if_pos c1]).symm, rfl⟩
  · refine aw_iload_n dX3_has_4 1 rfl ?_
    refine aw_aload_n dX3_has_5 0 rfl ?_
    refine aw_getI dX3_has_6 fl_X3_9 hR.1 hR.n0 ?_
    refine aw_icmp_ge 16 dX3_has_9 (by decide) (fun c2 => ?_) (fun c2 => ?_)
    · refine aw_iconst (v := 0) dX3_has_16 (by decide) ?_
      refine aw_zret dX3_has_17 rfl rfl (Nat.zero_le _) (Nat.zero_le _) ?_
      exact ⟨congrArg (fun z => some (Value.int (bz z))) (show sX3_has M a x1 = false by unfold sX3_has; rw [if_neg c1, if_pos c2]).symm, rfl⟩
    · refine aw_iconst (v := 1) dX3_has_12 (by decide) ?_
      refine aw_goto 17 dX3_has_13 (by decide) ?_
      refine aw_zret dX3_has_17 rfl rfl (Nat.zero_le _) (Nat.zero_le _) ?_
      exact ⟨congrArg (fun z => some (Value.int (bz z))) (show sX3_has M a x1 = true by unfold sX3_has; rw [if_neg c1, if_neg c2]).symm, rfl⟩
def sX6_isIn (x1 : Int64) (x2 : Int64) (x3 : Int64) : Bool := (if x1 < x2 then false else (if x3 < x1 then false else true))
theorem sp_X6_isIn {d : Nat} (hd : 0 ≤ d) {M : xM} (x1 : Int64) (x2 : Int64) (x3 : Int64)  : Sp (fX6_isIn d) [.long x1, .long x2, .long x3] M (dt (some (.int (bz (sX6_isIn x1 x2 x3)))) (M)) := by
  refine Sp.of pn_X6 (Nat.le_of_ble_eq_true rfl) (fun h => Bool.noConfusion h) ?_
  refine aw_lload_n dX6_isIn_0 0 rfl ?_
  refine aw_lload_n dX6_isIn_1 1 rfl ?_
  refine aw_llt 17 dX6_isIn_2 dX6_isIn_3 (by decide) (fun c1 => ?_) (fun c1 => ?_)
  · refine aw_iconst (v := 0) dX6_isIn_17 (by decide) ?_
    refine aw_zret dX6_isIn_18 rfl rfl (Nat.zero_le _) (Nat.zero_le _) ?_
    exact ⟨congrArg (fun z => some (Value.int (bz z))) (show sX6_isIn x1 x2 x3 = false by unfold sX6_isIn; rw [if_pos c1]).symm, rfl⟩
  · refine aw_lload_n dX6_isIn_6 0 rfl ?_
    refine aw_lload dX6_isIn_7 2 rfl ?_
    refine aw_lgt 17 dX6_isIn_9 dX6_isIn_10 (by decide) (fun c2 => ?_) (fun c2 => ?_)
    · refine aw_iconst (v := 0) dX6_isIn_17 (by decide) ?_
      refine aw_zret dX6_isIn_18 rfl rfl (Nat.zero_le _) (Nat.zero_le _) ?_
      exact ⟨congrArg (fun z => some (Value.int (bz z))) (show sX6_isIn x1 x2 x3 = false by unfold sX6_isIn; rw [if_neg c1, if_pos c2]).symm, rfl⟩
    · refine aw_iconst (v := 1) dX6_isIn_13 (by decide) ?_
      refine aw_goto 18 dX6_isIn_14 (by decide) ?_
      refine aw_zret dX6_isIn_18 rfl rfl (Nat.zero_le _) (Nat.zero_le _) ?_
      exact ⟨congrArg (fun z => some (Value.int (bz z))) (show sX6_isIn x1 x2 x3 = true by unfold sX6_isIn; rw [if_neg c1, if_neg c2]).symm, rfl⟩
def sX6_isNumber (x1 : Int32) (x2 : Int64) : Bool := (if x1 = 0 then (sX6_isIn x2 0 1) else (if x1 = 1 then (sX6_isIn x2 (-128) 127) else (if x1 = 2 then (sX6_isIn x2 0 65535) else (if x1 = 3 then (sX6_isIn x2 (-32768) 32767) else (if x1 = 4 then (sX6_isIn x2 (-2147483648) 2147483647) else true)))))
theorem sp_X6_isNumber {d : Nat} (hd : 1 ≤ d) {M : xM} (x1 : Int32) (x2 : Int64)  : Sp (fX6_isNumber d) [.int x1, .long x2] M (dt (some (.int (bz (sX6_isNumber x1 x2)))) (M)) := by
  refine Sp.of pn_X6 (Nat.le_of_ble_eq_true rfl) (fun h => Bool.noConfusion h) ?_
  refine aw_iload_n dX6_isNumber_0 0 rfl ?_
  by_cases c1 : x1 = 0
  · refine aw_tableIn 36 dX6_isNumber_1 (by rw [c1]; decide) (by rw [c1]; decide) (by rw [c1]; rfl) (by decide) ?_
    refine aw_lload_n dX6_isNumber_36 1 rfl ?_
    refine aw_lconst (v := 0) dX6_isNumber_37 (by decide) ?_
    refine aw_lconst (v := 1) dX6_isNumber_38 (by decide) ?_
    refine aw_callSi [.long x2, .long 0, .long 1] [] (sp_X6_isIn (d := d - 1) (by omega) x2 0 1 ) dX6_isNumber_39 ml_X6_73 sm_X6_isIn rfl (dl1 (d := d) (by omega)) rfl rfl (Nat.le_of_ble_eq_true rfl) rfl rfl (Nat.zero_le _) (Nat.zero_le _) ?_
    refine aw_zret dX6_isNumber_42 rfl narrow_bz (Nat.zero_le _) (Nat.zero_le _) ?_
    exact ⟨congrArg (fun z => some (Value.int (bz z))) (show sX6_isNumber x1 x2 = (sX6_isIn x2 0 1) by unfold sX6_isNumber; rw [if_pos c1]).symm, rfl⟩
  by_cases c2 : x1 = 1
  · refine aw_tableIn 43 dX6_isNumber_1 (by rw [c2]; decide) (by rw [c2]; decide) (by rw [c2]; rfl) (by decide) ?_
    refine aw_lload_n dX6_isNumber_43 1 rfl ?_
    refine aw_ldc2 dX6_isNumber_44 kc_X6_77 ?_
    refine aw_ldc2 dX6_isNumber_47 kc_X6_79 ?_
    refine aw_callSi [.long x2, .long (-128), .long 127] [] (sp_X6_isIn (d := d - 1) (by omega) x2 (-128) 127 ) dX6_isNumber_50 ml_X6_73 sm_X6_isIn rfl (dl1 (d := d) (by omega)) rfl rfl (Nat.le_of_ble_eq_true rfl) rfl rfl (Nat.zero_le _) (Nat.zero_le _) ?_
    refine aw_zret dX6_isNumber_53 rfl narrow_bz (Nat.zero_le _) (Nat.zero_le _) ?_
    exact ⟨congrArg (fun z => some (Value.int (bz z))) (show sX6_isNumber x1 x2 = (sX6_isIn x2 (-128) 127) by unfold sX6_isNumber; rw [if_neg c1, if_pos c2]).symm, rfl⟩
  by_cases c3 : x1 = 2
  · refine aw_tableIn 54 dX6_isNumber_1 (by rw [c3]; decide) (by rw [c3]; decide) (by rw [c3]; rfl) (by decide) ?_
    refine aw_lload_n dX6_isNumber_54 1 rfl ?_
    refine aw_lconst (v := 0) dX6_isNumber_55 (by decide) ?_
    refine aw_ldc2 dX6_isNumber_56 kc_X6_81 ?_
    refine aw_callSi [.long x2, .long 0, .long 65535] [] (sp_X6_isIn (d := d - 1) (by omega) x2 0 65535 ) dX6_isNumber_59 ml_X6_73 sm_X6_isIn rfl (dl1 (d := d) (by omega)) rfl rfl (Nat.le_of_ble_eq_true rfl) rfl rfl (Nat.zero_le _) (Nat.zero_le _) ?_
    refine aw_zret dX6_isNumber_62 rfl narrow_bz (Nat.zero_le _) (Nat.zero_le _) ?_
    exact ⟨congrArg (fun z => some (Value.int (bz z))) (show sX6_isNumber x1 x2 = (sX6_isIn x2 0 65535) by unfold sX6_isNumber; rw [if_neg c1, if_neg c2, if_pos c3]).symm, rfl⟩
  by_cases c4 : x1 = 3
  · refine aw_tableIn 63 dX6_isNumber_1 (by rw [c4]; decide) (by rw [c4]; decide) (by rw [c4]; rfl) (by decide) ?_
    refine aw_lload_n dX6_isNumber_63 1 rfl ?_
    refine aw_ldc2 dX6_isNumber_64 kc_X6_83 ?_
    refine aw_ldc2 dX6_isNumber_67 kc_X6_85 ?_
    refine aw_callSi [.long x2, .long (-32768), .long 32767] [] (sp_X6_isIn (d := d - 1) (by omega) x2 (-32768) 32767 ) dX6_isNumber_70 ml_X6_73 sm_X6_isIn rfl (dl1 (d := d) (by omega)) rfl rfl (Nat.le_of_ble_eq_true rfl) rfl rfl (Nat.zero_le _) (Nat.zero_le _) ?_
    refine aw_zret dX6_isNumber_73 rfl narrow_bz (Nat.zero_le _) (Nat.zero_le _) ?_
    exact ⟨congrArg (fun z => some (Value.int (bz z))) (show sX6_isNumber x1 x2 = (sX6_isIn x2 (-32768) 32767) by unfold sX6_isNumber; rw [if_neg c1, if_neg c2, if_neg c3, if_pos c4]).symm, rfl⟩
  by_cases c5 : x1 = 4
  · refine aw_tableIn 74 dX6_isNumber_1 (by rw [c5]; decide) (by rw [c5]; decide) (by rw [c5]; rfl) (by decide) ?_
    refine aw_lload_n dX6_isNumber_74 1 rfl ?_
    refine aw_ldc2 dX6_isNumber_75 kc_X6_87 ?_
    refine aw_ldc2 dX6_isNumber_78 kc_X6_89 ?_
    refine aw_callSi [.long x2, .long (-2147483648), .long 2147483647] [] (sp_X6_isIn (d := d - 1) (by omega) x2 (-2147483648) 2147483647 ) dX6_isNumber_81 ml_X6_73 sm_X6_isIn rfl (dl1 (d := d) (by omega)) rfl rfl (Nat.le_of_ble_eq_true rfl) rfl rfl (Nat.zero_le _) (Nat.zero_le _) ?_
    refine aw_zret dX6_isNumber_84 rfl narrow_bz (Nat.zero_le _) (Nat.zero_le _) ?_
    exact ⟨congrArg (fun z => some (Value.int (bz z))) (show sX6_isNumber x1 x2 = (sX6_isIn x2 (-2147483648) 2147483647) by unfold sX6_isNumber; rw [if_neg c1, if_neg c2, if_neg c3, if_neg c4, if_pos c5]).symm, rfl⟩
  refine aw_tableOut 85 dX6_isNumber_1 (by have ec1 : ¬ (Int32.toInt x1) = 0 := fun z => c1 (Int32.toInt_inj.mp (z.trans rfl)); have ec2 : ¬ (Int32.toInt x1) = 1 := fun z => c2 (Int32.toInt_inj.mp (z.trans rfl)); have ec3 : ¬ (Int32.toInt x1) = 2 := fun z => c3 (Int32.toInt_inj.mp (z.trans rfl)); have ec4 : ¬ (Int32.toInt x1) = 3 := fun z => c4 (Int32.toInt_inj.mp (z.trans rfl)); have ec5 : ¬ (Int32.toInt x1) = 4 := fun z => c5 (Int32.toInt_inj.mp (z.trans rfl)); omega) (by decide) ?_
  refine aw_iconst (v := 1) dX6_isNumber_85 (by decide) ?_
  refine aw_zret dX6_isNumber_86 rfl rfl (Nat.zero_le _) (Nat.zero_le _) ?_
  exact ⟨congrArg (fun z => some (Value.int (bz z))) (show sX6_isNumber x1 x2 = true by unfold sX6_isNumber; rw [if_neg c1, if_neg c2, if_neg c3, if_neg c4, if_neg c5]).symm, rfl⟩
def sX6_turns (x1 : Int32) (x2 : Int32) : Bool := (if x1 = x2 then true else (if x1 = 0 then false else (if 3 ≤ x2 then (if x1 = 1 then (if x2 < 3 then false else true) else (if 3 < x1 then (if x2 ≤ x1 then false else true) else (if x2 < 4 then false else true))) else false)))
theorem sp_X6_turns {d : Nat} (hd : 0 ≤ d) {M : xM} (x1 : Int32) (x2 : Int32)  : Sp (fX6_turns d) [.int x1, .int x2] M (dt (some (.int (bz (sX6_turns x1 x2)))) (M)) := by
  refine Sp.of pn_X6 (Nat.le_of_ble_eq_true rfl) (fun h => Bool.noConfusion h) ?_
  refine aw_iload_n dX6_turns_0 0 rfl ?_
  refine aw_iload_n dX6_turns_1 1 rfl ?_
  refine aw_icmp_ne 7 dX6_turns_2 (by decide) (fun c1 => ?_) (fun c1 => ?_)
  · refine aw_iload_n dX6_turns_7 0 rfl ?_
    refine aw_if_eq 16 dX6_turns_8 (by decide) (fun c2 => ?_) (fun c2 => ?_)
    · refine aw_iconst (v := 0) dX6_turns_16 (by decide) ?_
      refine aw_zret dX6_turns_17 rfl rfl (Nat.zero_le _) (Nat.zero_le _) ?_
      exact ⟨congrArg (fun z => some (Value.int (bz z))) (show sX6_turns x1 x2 = false by unfold sX6_turns; rw [if_neg c1, if_pos c2]).symm, rfl⟩
    · refine aw_iload_n dX6_turns_11 1 rfl ?_
      refine aw_iconst (v := 3) dX6_turns_12 (by decide) ?_
      refine aw_icmp_ge 18 dX6_turns_13 (by decide) (fun c3 => ?_) (fun c3 => ?_)
      · refine aw_iload_n dX6_turns_18 0 rfl ?_
        refine aw_iconst (v := 1) dX6_turns_19 (by decide) ?_
        refine aw_icmp_ne 36 dX6_turns_20 (by decide) (fun c4 => ?_) (fun c4 => ?_)
        · refine aw_iload_n dX6_turns_36 0 rfl ?_
          refine aw_iconst (v := 3) dX6_turns_37 (by decide) ?_
          refine aw_icmp_gt 54 dX6_turns_38 (by decide) (fun c5 => ?_) (fun c5 => ?_)
          · refine aw_iload_n dX6_turns_54 1 rfl ?_
            refine aw_iload_n dX6_turns_55 0 rfl ?_
            refine aw_icmp_le 63 dX6_turns_56 (by decide) (fun c6 => ?_) (fun c6 => ?_)
            · refine aw_iconst (v := 0) dX6_turns_63 (by decide) ?_
              refine aw_zret dX6_turns_64 rfl rfl (Nat.zero_le _) (Nat.zero_le _) ?_
              exact ⟨congrArg (fun z => some (Value.int (bz z))) (show sX6_turns x1 x2 = false by unfold sX6_turns; rw [if_neg c1, if_neg c2, if_pos c3, if_neg c4, if_pos c5, if_pos c6]).symm, rfl⟩
            · refine aw_iconst (v := 1) dX6_turns_59 (by decide) ?_
              refine aw_goto 64 dX6_turns_60 (by decide) ?_
              refine aw_zret dX6_turns_64 rfl rfl (Nat.zero_le _) (Nat.zero_le _) ?_
              exact ⟨congrArg (fun z => some (Value.int (bz z))) (show sX6_turns x1 x2 = true by unfold sX6_turns; rw [if_neg c1, if_neg c2, if_pos c3, if_neg c4, if_pos c5, if_neg c6]).symm, rfl⟩
          · refine aw_iload_n dX6_turns_41 1 rfl ?_
            refine aw_iconst (v := 4) dX6_turns_42 (by decide) ?_
            refine aw_icmp_lt 50 dX6_turns_43 (by decide) (fun c7 => ?_) (fun c7 => ?_)
            · refine aw_iconst (v := 0) dX6_turns_50 (by decide) ?_
              refine aw_goto 64 dX6_turns_51 (by decide) ?_
              refine aw_zret dX6_turns_64 rfl rfl (Nat.zero_le _) (Nat.zero_le _) ?_
              exact ⟨congrArg (fun z => some (Value.int (bz z))) (show sX6_turns x1 x2 = false by unfold sX6_turns; rw [if_neg c1, if_neg c2, if_pos c3, if_neg c4, if_neg c5, if_pos c7]).symm, rfl⟩
            · refine aw_iconst (v := 1) dX6_turns_46 (by decide) ?_
              refine aw_goto 64 dX6_turns_47 (by decide) ?_
              refine aw_zret dX6_turns_64 rfl rfl (Nat.zero_le _) (Nat.zero_le _) ?_
              exact ⟨congrArg (fun z => some (Value.int (bz z))) (show sX6_turns x1 x2 = true by unfold sX6_turns; rw [if_neg c1, if_neg c2, if_pos c3, if_neg c4, if_neg c5, if_neg c7]).symm, rfl⟩
        · refine aw_iload_n dX6_turns_23 1 rfl ?_
          refine aw_iconst (v := 3) dX6_turns_24 (by decide) ?_
          refine aw_icmp_lt 32 dX6_turns_25 (by decide) (fun c8 => ?_) (fun c8 => ?_)
          · refine aw_iconst (v := 0) dX6_turns_32 (by decide) ?_
            refine aw_goto 64 dX6_turns_33 (by decide) ?_
            refine aw_zret dX6_turns_64 rfl rfl (Nat.zero_le _) (Nat.zero_le _) ?_
            exact ⟨congrArg (fun z => some (Value.int (bz z))) (show sX6_turns x1 x2 = false by unfold sX6_turns; rw [if_neg c1, if_neg c2, if_pos c3, if_pos c4, if_pos c8]).symm, rfl⟩
          · refine aw_iconst (v := 1) dX6_turns_28 (by decide) ?_
            refine aw_goto 64 dX6_turns_29 (by decide) ?_
            refine aw_zret dX6_turns_64 rfl rfl (Nat.zero_le _) (Nat.zero_le _) ?_
            exact ⟨congrArg (fun z => some (Value.int (bz z))) (show sX6_turns x1 x2 = true by unfold sX6_turns; rw [if_neg c1, if_neg c2, if_pos c3, if_pos c4, if_neg c8]).symm, rfl⟩
      · refine aw_iconst (v := 0) dX6_turns_16 (by decide) ?_
        refine aw_zret dX6_turns_17 rfl rfl (Nat.zero_le _) (Nat.zero_le _) ?_
        exact ⟨congrArg (fun z => some (Value.int (bz z))) (show sX6_turns x1 x2 = false by unfold sX6_turns; rw [if_neg c1, if_neg c2, if_neg c3]).symm, rfl⟩
  · refine aw_iconst (v := 1) dX6_turns_5 (by decide) ?_
    refine aw_zret dX6_turns_6 rfl rfl (Nat.zero_le _) (Nat.zero_le _) ?_
    exact ⟨congrArg (fun z => some (Value.int (bz z))) (show sX6_turns x1 x2 = true by unfold sX6_turns; rw [if_pos c1]).symm, rfl⟩
def sX6_isThing (x1 : Int64) : Bool := (sX6_isIn x1 0 11)
theorem sp_X6_isThing {d : Nat} (hd : 1 ≤ d) {M : xM} (x1 : Int64)  : Sp (fX6_isThing d) [.long x1] M (dt (some (.int (bz (sX6_isThing x1)))) (M)) := by
  refine Sp.of pn_X6 (Nat.le_of_ble_eq_true rfl) (fun h => Bool.noConfusion h) ?_
  refine aw_lload_n dX6_isThing_0 0 rfl ?_
  refine aw_lconst (v := 0) dX6_isThing_1 (by decide) ?_
  refine aw_ldc2 dX6_isThing_2 kc_X6_119 ?_
  refine aw_callSi [.long x1, .long 0, .long 11] [] (sp_X6_isIn (d := d - 1) (by omega) x1 0 11 ) dX6_isThing_5 ml_X6_73 sm_X6_isIn rfl (dl1 (d := d) (by omega)) rfl rfl (Nat.le_of_ble_eq_true rfl) rfl rfl (Nat.zero_le _) (Nat.zero_le _) ?_
  refine aw_zret dX6_isThing_8 rfl narrow_bz (Nat.zero_le _) (Nat.zero_le _) ?_
  exact ⟨congrArg (fun z => some (Value.int (bz z))) (rfl : (sX6_isIn x1 0 11) = sX6_isThing x1), rfl⟩
def sX6_isRowTag (x1 : Int32) : Bool := (if x1 < 16 then (if x1 < 32 then (if x1 < 49 then false else (if 53 < x1 then false else true)) else (if x1 ≤ 39 then true else (if x1 < 49 then false else (if 53 < x1 then false else true)))) else (if x1 ≤ 29 then true else (if x1 < 32 then (if x1 < 49 then false else (if 53 < x1 then false else true)) else (if x1 ≤ 39 then true else (if x1 < 49 then false else (if 53 < x1 then false else true))))))
theorem sp_X6_isRowTag {d : Nat} (hd : 0 ≤ d) {M : xM} (x1 : Int32)  : Sp (fX6_isRowTag d) [.int x1] M (dt (some (.int (bz (sX6_isRowTag x1)))) (M)) := by
  refine Sp.of pn_X6 (Nat.le_of_ble_eq_true rfl) (fun h => Bool.noConfusion h) ?_
  refine aw_iload_n dX6_isRowTag_0 0 rfl ?_
  refine aw_bipush (v := 16) dX6_isRowTag_1 (by decide) ?_
  refine aw_icmp_lt 12 dX6_isRowTag_3 (by decide) (fun c1 => ?_) (fun c1 => ?_)
  · refine aw_iload_n dX6_isRowTag_12 0 rfl ?_
    refine aw_bipush (v := 32) dX6_isRowTag_13 (by decide) ?_
    refine aw_icmp_lt 24 dX6_isRowTag_15 (by decide) (fun c2 => ?_) (fun c2 => ?_)
    · refine aw_iload_n dX6_isRowTag_24 0 rfl ?_
      refine aw_bipush (v := 49) dX6_isRowTag_25 (by decide) ?_
      refine aw_icmp_lt 40 dX6_isRowTag_27 (by decide) (fun c3 => ?_) (fun c3 => ?_)
      · refine aw_iconst (v := 0) dX6_isRowTag_40 (by decide) ?_
        refine aw_zret dX6_isRowTag_41 rfl rfl (Nat.zero_le _) (Nat.zero_le _) ?_
        exact ⟨congrArg (fun z => some (Value.int (bz z))) (show sX6_isRowTag x1 = false by unfold sX6_isRowTag; rw [if_pos c1, if_pos c2, if_pos c3]).symm, rfl⟩
      · refine aw_iload_n dX6_isRowTag_30 0 rfl ?_
        refine aw_bipush (v := 53) dX6_isRowTag_31 (by decide) ?_
        refine aw_icmp_gt 40 dX6_isRowTag_33 (by decide) (fun c4 => ?_) (fun c4 => ?_)
        · refine aw_iconst (v := 0) dX6_isRowTag_40 (by decide) ?_
          refine aw_zret dX6_isRowTag_41 rfl rfl (Nat.zero_le _) (Nat.zero_le _) ?_
          exact ⟨congrArg (fun z => some (Value.int (bz z))) (show sX6_isRowTag x1 = false by unfold sX6_isRowTag; rw [if_pos c1, if_pos c2, if_neg c3, if_pos c4]).symm, rfl⟩
        · refine aw_iconst (v := 1) dX6_isRowTag_36 (by decide) ?_
          refine aw_goto 41 dX6_isRowTag_37 (by decide) ?_
          refine aw_zret dX6_isRowTag_41 rfl rfl (Nat.zero_le _) (Nat.zero_le _) ?_
          exact ⟨congrArg (fun z => some (Value.int (bz z))) (show sX6_isRowTag x1 = true by unfold sX6_isRowTag; rw [if_pos c1, if_pos c2, if_neg c3, if_neg c4]).symm, rfl⟩
    · refine aw_iload_n dX6_isRowTag_18 0 rfl ?_
      refine aw_bipush (v := 39) dX6_isRowTag_19 (by decide) ?_
      refine aw_icmp_le 36 dX6_isRowTag_21 (by decide) (fun c5 => ?_) (fun c5 => ?_)
      · refine aw_iconst (v := 1) dX6_isRowTag_36 (by decide) ?_
        refine aw_goto 41 dX6_isRowTag_37 (by decide) ?_
        refine aw_zret dX6_isRowTag_41 rfl rfl (Nat.zero_le _) (Nat.zero_le _) ?_
        exact ⟨congrArg (fun z => some (Value.int (bz z))) (show sX6_isRowTag x1 = true by unfold sX6_isRowTag; rw [if_pos c1, if_neg c2, if_pos c5]).symm, rfl⟩
      · refine aw_iload_n dX6_isRowTag_24 0 rfl ?_
        refine aw_bipush (v := 49) dX6_isRowTag_25 (by decide) ?_
        refine aw_icmp_lt 40 dX6_isRowTag_27 (by decide) (fun c6 => ?_) (fun c6 => ?_)
        · refine aw_iconst (v := 0) dX6_isRowTag_40 (by decide) ?_
          refine aw_zret dX6_isRowTag_41 rfl rfl (Nat.zero_le _) (Nat.zero_le _) ?_
          exact ⟨congrArg (fun z => some (Value.int (bz z))) (show sX6_isRowTag x1 = false by unfold sX6_isRowTag; rw [if_pos c1, if_neg c2, if_neg c5, if_pos c6]).symm, rfl⟩
        · refine aw_iload_n dX6_isRowTag_30 0 rfl ?_
          refine aw_bipush (v := 53) dX6_isRowTag_31 (by decide) ?_
          refine aw_icmp_gt 40 dX6_isRowTag_33 (by decide) (fun c7 => ?_) (fun c7 => ?_)
          · refine aw_iconst (v := 0) dX6_isRowTag_40 (by decide) ?_
            refine aw_zret dX6_isRowTag_41 rfl rfl (Nat.zero_le _) (Nat.zero_le _) ?_
            exact ⟨congrArg (fun z => some (Value.int (bz z))) (show sX6_isRowTag x1 = false by unfold sX6_isRowTag; rw [if_pos c1, if_neg c2, if_neg c5, if_neg c6, if_pos c7]).symm, rfl⟩
          · refine aw_iconst (v := 1) dX6_isRowTag_36 (by decide) ?_
            refine aw_goto 41 dX6_isRowTag_37 (by decide) ?_
            refine aw_zret dX6_isRowTag_41 rfl rfl (Nat.zero_le _) (Nat.zero_le _) ?_
            exact ⟨congrArg (fun z => some (Value.int (bz z))) (show sX6_isRowTag x1 = true by unfold sX6_isRowTag; rw [if_pos c1, if_neg c2, if_neg c5, if_neg c6, if_neg c7]).symm, rfl⟩
  · refine aw_iload_n dX6_isRowTag_6 0 rfl ?_
    refine aw_bipush (v := 29) dX6_isRowTag_7 (by decide) ?_
    refine aw_icmp_le 36 dX6_isRowTag_9 (by decide) (fun c8 => ?_) (fun c8 => ?_)
    · refine aw_iconst (v := 1) dX6_isRowTag_36 (by decide) ?_
      refine aw_goto 41 dX6_isRowTag_37 (by decide) ?_
      refine aw_zret dX6_isRowTag_41 rfl rfl (Nat.zero_le _) (Nat.zero_le _) ?_
      exact ⟨congrArg (fun z => some (Value.int (bz z))) (show sX6_isRowTag x1 = true by unfold sX6_isRowTag; rw [if_neg c1, if_pos c8]).symm, rfl⟩
    · refine aw_iload_n dX6_isRowTag_12 0 rfl ?_
      refine aw_bipush (v := 32) dX6_isRowTag_13 (by decide) ?_
      refine aw_icmp_lt 24 dX6_isRowTag_15 (by decide) (fun c9 => ?_) (fun c9 => ?_)
      · refine aw_iload_n dX6_isRowTag_24 0 rfl ?_
        refine aw_bipush (v := 49) dX6_isRowTag_25 (by decide) ?_
        refine aw_icmp_lt 40 dX6_isRowTag_27 (by decide) (fun c10 => ?_) (fun c10 => ?_)
        · refine aw_iconst (v := 0) dX6_isRowTag_40 (by decide) ?_
          refine aw_zret dX6_isRowTag_41 rfl rfl (Nat.zero_le _) (Nat.zero_le _) ?_
          exact ⟨congrArg (fun z => some (Value.int (bz z))) (show sX6_isRowTag x1 = false by unfold sX6_isRowTag; rw [if_neg c1, if_neg c8, if_pos c9, if_pos c10]).symm, rfl⟩
        · refine aw_iload_n dX6_isRowTag_30 0 rfl ?_
          refine aw_bipush (v := 53) dX6_isRowTag_31 (by decide) ?_
          refine aw_icmp_gt 40 dX6_isRowTag_33 (by decide) (fun c11 => ?_) (fun c11 => ?_)
          · refine aw_iconst (v := 0) dX6_isRowTag_40 (by decide) ?_
            refine aw_zret dX6_isRowTag_41 rfl rfl (Nat.zero_le _) (Nat.zero_le _) ?_
            exact ⟨congrArg (fun z => some (Value.int (bz z))) (show sX6_isRowTag x1 = false by unfold sX6_isRowTag; rw [if_neg c1, if_neg c8, if_pos c9, if_neg c10, if_pos c11]).symm, rfl⟩
          · refine aw_iconst (v := 1) dX6_isRowTag_36 (by decide) ?_
            refine aw_goto 41 dX6_isRowTag_37 (by decide) ?_
            refine aw_zret dX6_isRowTag_41 rfl rfl (Nat.zero_le _) (Nat.zero_le _) ?_
            exact ⟨congrArg (fun z => some (Value.int (bz z))) (show sX6_isRowTag x1 = true by unfold sX6_isRowTag; rw [if_neg c1, if_neg c8, if_pos c9, if_neg c10, if_neg c11]).symm, rfl⟩
      · refine aw_iload_n dX6_isRowTag_18 0 rfl ?_
        refine aw_bipush (v := 39) dX6_isRowTag_19 (by decide) ?_
        refine aw_icmp_le 36 dX6_isRowTag_21 (by decide) (fun c12 => ?_) (fun c12 => ?_)
        · refine aw_iconst (v := 1) dX6_isRowTag_36 (by decide) ?_
          refine aw_goto 41 dX6_isRowTag_37 (by decide) ?_
          refine aw_zret dX6_isRowTag_41 rfl rfl (Nat.zero_le _) (Nat.zero_le _) ?_
          exact ⟨congrArg (fun z => some (Value.int (bz z))) (show sX6_isRowTag x1 = true by unfold sX6_isRowTag; rw [if_neg c1, if_neg c8, if_neg c9, if_pos c12]).symm, rfl⟩
        · refine aw_iload_n dX6_isRowTag_24 0 rfl ?_
          refine aw_bipush (v := 49) dX6_isRowTag_25 (by decide) ?_
          refine aw_icmp_lt 40 dX6_isRowTag_27 (by decide) (fun c13 => ?_) (fun c13 => ?_)
          · refine aw_iconst (v := 0) dX6_isRowTag_40 (by decide) ?_
            refine aw_zret dX6_isRowTag_41 rfl rfl (Nat.zero_le _) (Nat.zero_le _) ?_
            exact ⟨congrArg (fun z => some (Value.int (bz z))) (show sX6_isRowTag x1 = false by unfold sX6_isRowTag; rw [if_neg c1, if_neg c8, if_neg c9, if_neg c12, if_pos c13]).symm, rfl⟩
          · refine aw_iload_n dX6_isRowTag_30 0 rfl ?_
            refine aw_bipush (v := 53) dX6_isRowTag_31 (by decide) ?_
            refine aw_icmp_gt 40 dX6_isRowTag_33 (by decide) (fun c14 => ?_) (fun c14 => ?_)
            · refine aw_iconst (v := 0) dX6_isRowTag_40 (by decide) ?_
              refine aw_zret dX6_isRowTag_41 rfl rfl (Nat.zero_le _) (Nat.zero_le _) ?_
              exact ⟨congrArg (fun z => some (Value.int (bz z))) (show sX6_isRowTag x1 = false by unfold sX6_isRowTag; rw [if_neg c1, if_neg c8, if_neg c9, if_neg c12, if_neg c13, if_pos c14]).symm, rfl⟩
            · refine aw_iconst (v := 1) dX6_isRowTag_36 (by decide) ?_
              refine aw_goto 41 dX6_isRowTag_37 (by decide) ?_
              refine aw_zret dX6_isRowTag_41 rfl rfl (Nat.zero_le _) (Nat.zero_le _) ?_
              exact ⟨congrArg (fun z => some (Value.int (bz z))) (show sX6_isRowTag x1 = true by unfold sX6_isRowTag; rw [if_neg c1, if_neg c8, if_neg c9, if_neg c12, if_neg c13, if_neg c14]).symm, rfl⟩
def sX6_width (x1 : Int32) : Int32 := (if x1 = 0 then 1 else (if x1 = 1 then 1 else (if x1 = 2 then 2 else (if x1 = 3 then 2 else (if x1 = 4 then 4 else (if x1 = 6 then 5 else (if x1 = 7 then 9 else (if x1 = 5 then 8 else 8))))))))
theorem sp_X6_width {d : Nat} (hd : 0 ≤ d) {M : xM} (x1 : Int32)  : Sp (fX6_width d) [.int x1] M (dt (some (.int (sX6_width x1))) (M)) := by
  refine Sp.of pn_X6 (Nat.le_of_ble_eq_true rfl) (fun h => Bool.noConfusion h) ?_
  refine aw_iload_n dX6_width_0 0 rfl ?_
  by_cases c1 : x1 = 0
  · refine aw_tableIn 48 dX6_width_1 (by rw [c1]; decide) (by rw [c1]; decide) (by rw [c1]; rfl) (by decide) ?_
    refine aw_iconst (v := 1) dX6_width_48 (by decide) ?_
    refine aw_iret dX6_width_49 rfl (Nat.zero_le _) (Nat.zero_le _) ?_
    exact ⟨congrArg (fun z => some (Value.int z)) (show sX6_width x1 = 1 by unfold sX6_width; rw [if_pos c1]).symm, rfl⟩
  by_cases c2 : x1 = 1
  · refine aw_tableIn 48 dX6_width_1 (by rw [c2]; decide) (by rw [c2]; decide) (by rw [c2]; rfl) (by decide) ?_
    refine aw_iconst (v := 1) dX6_width_48 (by decide) ?_
    refine aw_iret dX6_width_49 rfl (Nat.zero_le _) (Nat.zero_le _) ?_
    exact ⟨congrArg (fun z => some (Value.int z)) (show sX6_width x1 = 1 by unfold sX6_width; rw [if_neg c1, if_pos c2]).symm, rfl⟩
  by_cases c3 : x1 = 2
  · refine aw_tableIn 50 dX6_width_1 (by rw [c3]; decide) (by rw [c3]; decide) (by rw [c3]; rfl) (by decide) ?_
    refine aw_iconst (v := 2) dX6_width_50 (by decide) ?_
    refine aw_iret dX6_width_51 rfl (Nat.zero_le _) (Nat.zero_le _) ?_
    exact ⟨congrArg (fun z => some (Value.int z)) (show sX6_width x1 = 2 by unfold sX6_width; rw [if_neg c1, if_neg c2, if_pos c3]).symm, rfl⟩
  by_cases c4 : x1 = 3
  · refine aw_tableIn 50 dX6_width_1 (by rw [c4]; decide) (by rw [c4]; decide) (by rw [c4]; rfl) (by decide) ?_
    refine aw_iconst (v := 2) dX6_width_50 (by decide) ?_
    refine aw_iret dX6_width_51 rfl (Nat.zero_le _) (Nat.zero_le _) ?_
    exact ⟨congrArg (fun z => some (Value.int z)) (show sX6_width x1 = 2 by unfold sX6_width; rw [if_neg c1, if_neg c2, if_neg c3, if_pos c4]).symm, rfl⟩
  by_cases c5 : x1 = 4
  · refine aw_tableIn 52 dX6_width_1 (by rw [c5]; decide) (by rw [c5]; decide) (by rw [c5]; rfl) (by decide) ?_
    refine aw_iconst (v := 4) dX6_width_52 (by decide) ?_
    refine aw_iret dX6_width_53 rfl (Nat.zero_le _) (Nat.zero_le _) ?_
    exact ⟨congrArg (fun z => some (Value.int z)) (show sX6_width x1 = 4 by unfold sX6_width; rw [if_neg c1, if_neg c2, if_neg c3, if_neg c4, if_pos c5]).symm, rfl⟩
  by_cases c6 : x1 = 6
  · refine aw_tableIn 54 dX6_width_1 (by rw [c6]; decide) (by rw [c6]; decide) (by rw [c6]; rfl) (by decide) ?_
    refine aw_iconst (v := 5) dX6_width_54 (by decide) ?_
    refine aw_iret dX6_width_55 rfl (Nat.zero_le _) (Nat.zero_le _) ?_
    exact ⟨congrArg (fun z => some (Value.int z)) (show sX6_width x1 = 5 by unfold sX6_width; rw [if_neg c1, if_neg c2, if_neg c3, if_neg c4, if_neg c5, if_pos c6]).symm, rfl⟩
  by_cases c7 : x1 = 7
  · refine aw_tableIn 56 dX6_width_1 (by rw [c7]; decide) (by rw [c7]; decide) (by rw [c7]; rfl) (by decide) ?_
    refine aw_bipush (v := 9) dX6_width_56 (by decide) ?_
    refine aw_iret dX6_width_58 rfl (Nat.zero_le _) (Nat.zero_le _) ?_
    exact ⟨congrArg (fun z => some (Value.int z)) (show sX6_width x1 = 9 by unfold sX6_width; rw [if_neg c1, if_neg c2, if_neg c3, if_neg c4, if_neg c5, if_neg c6, if_pos c7]).symm, rfl⟩
  by_cases c8 : x1 = 5
  · refine aw_tableIn 59 dX6_width_1 (by rw [c8]; decide) (by rw [c8]; decide) (by rw [c8]; rfl) (by decide) ?_
    refine aw_bipush (v := 8) dX6_width_59 (by decide) ?_
    refine aw_iret dX6_width_61 rfl (Nat.zero_le _) (Nat.zero_le _) ?_
    exact ⟨congrArg (fun z => some (Value.int z)) (show sX6_width x1 = 8 by unfold sX6_width; rw [if_neg c1, if_neg c2, if_neg c3, if_neg c4, if_neg c5, if_neg c6, if_neg c7, if_pos c8]).symm, rfl⟩
  refine aw_tableOut 59 dX6_width_1 (by have ec1 : ¬ (Int32.toInt x1) = 0 := fun z => c1 (Int32.toInt_inj.mp (z.trans rfl)); have ec2 : ¬ (Int32.toInt x1) = 1 := fun z => c2 (Int32.toInt_inj.mp (z.trans rfl)); have ec3 : ¬ (Int32.toInt x1) = 2 := fun z => c3 (Int32.toInt_inj.mp (z.trans rfl)); have ec4 : ¬ (Int32.toInt x1) = 3 := fun z => c4 (Int32.toInt_inj.mp (z.trans rfl)); have ec5 : ¬ (Int32.toInt x1) = 4 := fun z => c5 (Int32.toInt_inj.mp (z.trans rfl)); have ec6 : ¬ (Int32.toInt x1) = 6 := fun z => c6 (Int32.toInt_inj.mp (z.trans rfl)); have ec7 : ¬ (Int32.toInt x1) = 7 := fun z => c7 (Int32.toInt_inj.mp (z.trans rfl)); have ec8 : ¬ (Int32.toInt x1) = 5 := fun z => c8 (Int32.toInt_inj.mp (z.trans rfl)); omega) (by decide) ?_
  refine aw_bipush (v := 8) dX6_width_59 (by decide) ?_
  refine aw_iret dX6_width_61 rfl (Nat.zero_le _) (Nat.zero_le _) ?_
  exact ⟨congrArg (fun z => some (Value.int z)) (show sX6_width x1 = 8 by unfold sX6_width; rw [if_neg c1, if_neg c2, if_neg c3, if_neg c4, if_neg c5, if_neg c6, if_neg c7, if_neg c8]).symm, rfl⟩
