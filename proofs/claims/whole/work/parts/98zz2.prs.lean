def sX1_isScaled (x1 : Int32) (x2 : Int64) (x3 : Int32) : Bool := (if x2 = (0 : Int64) then (if x3 = 0 then true else false) else (if (x2 &&& (1 : Int64)) = (0 : Int64) then false else (if x3 ≤ 66 then (if (0 : Int64) ≤ x2 then (if x1 = 6 then (if (64 - (sJ13_nlz x2)) ≤ 24 then (if x2 = (1 : Int64) then true else (if 66 < ((64 - (sJ13_nlz x2)) + x3) then false else true)) else false) else (if (64 - (sJ13_nlz x2)) ≤ 53 then (if x2 = (1 : Int64) then true else (if 66 < ((64 - (sJ13_nlz x2)) + x3) then false else true)) else false)) else (if x1 = 6 then (if (64 - (sJ13_nlz (-x2))) ≤ 24 then (if (-x2) = (1 : Int64) then true else (if 66 < ((64 - (sJ13_nlz (-x2))) + x3) then false else true)) else false) else (if (64 - (sJ13_nlz (-x2))) ≤ 53 then (if (-x2) = (1 : Int64) then true else (if 66 < ((64 - (sJ13_nlz (-x2))) + x3) then false else true)) else false))) else false)))
theorem sp_X1_isScaled {d : Nat} (hd : 2 ≤ d) {M : xM} (x1 : Int32) (x2 : Int64) (x3 : Int32)  : Sp (fX1_isScaled d) [.int x1, .long x2, .int x3] M (dt (some (.int (bz (sX1_isScaled x1 x2 x3)))) (M)) := by
  refine Sp.of pn_X1 (Nat.le_of_ble_eq_true rfl) (fun h => Bool.noConfusion h) ?_
  refine aw_lload_n dX1_isScaled_0 1 rfl ?_
  refine aw_lconst (v := 0) dX1_isScaled_1 (by decide) ?_
  refine aw_lne 16 dX1_isScaled_2 dX1_isScaled_3 (by decide) (fun c1 => ?_) (fun c1 => ?_)
  · refine aw_lload_n dX1_isScaled_16 1 rfl ?_
    refine aw_lconst (v := 1) dX1_isScaled_17 (by decide) ?_
    refine aw_land dX1_isScaled_18 ?_
    refine aw_lconst (v := 0) dX1_isScaled_19 (by decide) ?_
    refine aw_leq 30 dX1_isScaled_20 dX1_isScaled_21 (by decide) (fun c2 => ?_) (fun c2 => ?_)
    · refine aw_iconst (v := 0) dX1_isScaled_30 (by decide) ?_
      refine aw_zret dX1_isScaled_31 rfl rfl (Nat.zero_le _) (Nat.zero_le _) ?_
      exact ⟨congrArg (fun z => some (Value.int (bz z))) (show sX1_isScaled x1 x2 x3 = false by unfold sX1_isScaled; rw [if_neg c1, if_pos c2]).symm, rfl⟩
    · refine aw_iload_n dX1_isScaled_24 2 rfl ?_
      refine aw_bipush (v := 66) dX1_isScaled_25 (by decide) ?_
      refine aw_icmp_le 32 dX1_isScaled_27 (by decide) (fun c3 => ?_) (fun c3 => ?_)
      · refine aw_lload_n dX1_isScaled_32 1 rfl ?_
        refine aw_lconst (v := 0) dX1_isScaled_33 (by decide) ?_
        refine aw_lge 43 dX1_isScaled_34 dX1_isScaled_35 (by decide) (fun c4 => ?_) (fun c4 => ?_)
        · refine aw_lload_n dX1_isScaled_43 1 rfl ?_
          refine aw_lstore [(4, .long x2), (0, .int x1), (1, .long x2), (3, .int x3)] dX1_isScaled_44 (Nat.le_of_ble_eq_true rfl) rfl ?_
          refine aw_bipush (v := 64) dX1_isScaled_46 (by decide) ?_
          refine aw_lload dX1_isScaled_48 0 rfl ?_
          refine aw_callSi [.long x2] [.int 64] (sp_J13_numberOfLeadingZeros_95d88 (d := d - 1) (by omega) x2 ) dX1_isScaled_50 ml_X1_140 sm_J13_numberOfLeadingZeros_95d88 rfl (dl1 (d := d) (by omega)) rfl rfl (Nat.le_of_ble_eq_true rfl) rfl rfl (Nat.zero_le _) (Nat.zero_le _) ?_
          refine aw_isub dX1_isScaled_53 ?_
          refine aw_istore [(6, .int (64 - (sJ13_nlz x2))), (4, .long x2), (0, .int x1), (1, .long x2), (3, .int x3)] dX1_isScaled_54 (Nat.le_of_ble_eq_true rfl) rfl ?_
          refine aw_iload dX1_isScaled_56 0 rfl ?_
          refine aw_iload_n dX1_isScaled_58 2 rfl ?_
          refine aw_bipush (v := 6) dX1_isScaled_59 (by decide) ?_
          refine aw_icmp_ne 69 dX1_isScaled_61 (by decide) (fun c5 => ?_) (fun c5 => ?_)
          · refine aw_bipush (v := 53) dX1_isScaled_69 (by decide) ?_
            refine aw_icmp_le 76 dX1_isScaled_71 (by decide) (fun c6 => ?_) (fun c6 => ?_)
            · refine aw_lload dX1_isScaled_76 1 rfl ?_
              refine aw_lconst (v := 1) dX1_isScaled_78 (by decide) ?_
              refine aw_leq 92 dX1_isScaled_79 dX1_isScaled_80 (by decide) (fun c7 => ?_) (fun c7 => ?_)
              · refine aw_iconst (v := 1) dX1_isScaled_92 (by decide) ?_
                refine aw_goto 97 dX1_isScaled_93 (by decide) ?_
                refine aw_zret dX1_isScaled_97 rfl rfl (Nat.zero_le _) (Nat.zero_le _) ?_
                exact ⟨congrArg (fun z => some (Value.int (bz z))) (show sX1_isScaled x1 x2 x3 = true by unfold sX1_isScaled; rw [if_neg c1, if_neg c2, if_pos c3, if_pos c4, if_neg c5, if_pos c6, if_pos c7]).symm, rfl⟩
              · refine aw_iload dX1_isScaled_83 0 rfl ?_
                refine aw_iload_n dX1_isScaled_85 4 rfl ?_
                refine aw_iadd dX1_isScaled_86 ?_
                refine aw_bipush (v := 66) dX1_isScaled_87 (by decide) ?_
                refine aw_icmp_gt 96 dX1_isScaled_89 (by decide) (fun c8 => ?_) (fun c8 => ?_)
                · refine aw_iconst (v := 0) dX1_isScaled_96 (by decide) ?_
                  refine aw_zret dX1_isScaled_97 rfl rfl (Nat.zero_le _) (Nat.zero_le _) ?_
                  exact ⟨congrArg (fun z => some (Value.int (bz z))) (show sX1_isScaled x1 x2 x3 = false by unfold sX1_isScaled; rw [if_neg c1, if_neg c2, if_pos c3, if_pos c4, if_neg c5, if_pos c6, if_neg c7, if_pos c8]).symm, rfl⟩
                · refine aw_iconst (v := 1) dX1_isScaled_92 (by decide) ?_
                  refine aw_goto 97 dX1_isScaled_93 (by decide) ?_
                  refine aw_zret dX1_isScaled_97 rfl rfl (Nat.zero_le _) (Nat.zero_le _) ?_
                  exact ⟨congrArg (fun z => some (Value.int (bz z))) (show sX1_isScaled x1 x2 x3 = true by unfold sX1_isScaled; rw [if_neg c1, if_neg c2, if_pos c3, if_pos c4, if_neg c5, if_pos c6, if_neg c7, if_neg c8]).symm, rfl⟩
            · refine aw_iconst (v := 0) dX1_isScaled_74 (by decide) ?_
              refine aw_zret dX1_isScaled_75 rfl rfl (Nat.zero_le _) (Nat.zero_le _) ?_
              exact ⟨congrArg (fun z => some (Value.int (bz z))) (show sX1_isScaled x1 x2 x3 = false by unfold sX1_isScaled; rw [if_neg c1, if_neg c2, if_pos c3, if_pos c4, if_neg c5, if_neg c6]).symm, rfl⟩
          · refine aw_bipush (v := 24) dX1_isScaled_64 (by decide) ?_
            refine aw_goto 71 dX1_isScaled_66 (by decide) ?_
            refine aw_icmp_le 76 dX1_isScaled_71 (by decide) (fun c9 => ?_) (fun c9 => ?_)
            · refine aw_lload dX1_isScaled_76 1 rfl ?_
              refine aw_lconst (v := 1) dX1_isScaled_78 (by decide) ?_
              refine aw_leq 92 dX1_isScaled_79 dX1_isScaled_80 (by decide) (fun c10 => ?_) (fun c10 => ?_)
              · refine aw_iconst (v := 1) dX1_isScaled_92 (by decide) ?_
                refine aw_goto 97 dX1_isScaled_93 (by decide) ?_
                refine aw_zret dX1_isScaled_97 rfl rfl (Nat.zero_le _) (Nat.zero_le _) ?_
                exact ⟨congrArg (fun z => some (Value.int (bz z))) (show sX1_isScaled x1 x2 x3 = true by unfold sX1_isScaled; rw [if_neg c1, if_neg c2, if_pos c3, if_pos c4, if_pos c5, if_pos c9, if_pos c10]).symm, rfl⟩
              · refine aw_iload dX1_isScaled_83 0 rfl ?_
                refine aw_iload_n dX1_isScaled_85 4 rfl ?_
                refine aw_iadd dX1_isScaled_86 ?_
                refine aw_bipush (v := 66) dX1_isScaled_87 (by decide) ?_
                refine aw_icmp_gt 96 dX1_isScaled_89 (by decide) (fun c11 => ?_) (fun c11 => ?_)
                · refine aw_iconst (v := 0) dX1_isScaled_96 (by decide) ?_
                  refine aw_zret dX1_isScaled_97 rfl rfl (Nat.zero_le _) (Nat.zero_le _) ?_
                  exact ⟨congrArg (fun z => some (Value.int (bz z))) (show sX1_isScaled x1 x2 x3 = false by unfold sX1_isScaled; rw [if_neg c1, if_neg c2, if_pos c3, if_pos c4, if_pos c5, if_pos c9, if_neg c10, if_pos c11]).symm, rfl⟩
                · refine aw_iconst (v := 1) dX1_isScaled_92 (by decide) ?_
                  refine aw_goto 97 dX1_isScaled_93 (by decide) ?_
                  refine aw_zret dX1_isScaled_97 rfl rfl (Nat.zero_le _) (Nat.zero_le _) ?_
                  exact ⟨congrArg (fun z => some (Value.int (bz z))) (show sX1_isScaled x1 x2 x3 = true by unfold sX1_isScaled; rw [if_neg c1, if_neg c2, if_pos c3, if_pos c4, if_pos c5, if_pos c9, if_neg c10, if_neg c11]).symm, rfl⟩
            · refine aw_iconst (v := 0) dX1_isScaled_74 (by decide) ?_
              refine aw_zret dX1_isScaled_75 rfl rfl (Nat.zero_le _) (Nat.zero_le _) ?_
              exact ⟨congrArg (fun z => some (Value.int (bz z))) (show sX1_isScaled x1 x2 x3 = false by unfold sX1_isScaled; rw [if_neg c1, if_neg c2, if_pos c3, if_pos c4, if_pos c5, if_neg c9]).symm, rfl⟩
        · refine aw_lload_n dX1_isScaled_38 1 rfl ?_
          refine aw_lneg dX1_isScaled_39 ?_
          refine aw_goto 44 dX1_isScaled_40 (by decide) ?_
          refine aw_lstore [(4, .long (-x2)), (0, .int x1), (1, .long x2), (3, .int x3)] dX1_isScaled_44 (Nat.le_of_ble_eq_true rfl) rfl ?_
          refine aw_bipush (v := 64) dX1_isScaled_46 (by decide) ?_
          refine aw_lload dX1_isScaled_48 0 rfl ?_
          refine aw_callSi [.long (-x2)] [.int 64] (sp_J13_numberOfLeadingZeros_95d88 (d := d - 1) (by omega) (-x2) ) dX1_isScaled_50 ml_X1_140 sm_J13_numberOfLeadingZeros_95d88 rfl (dl1 (d := d) (by omega)) rfl rfl (Nat.le_of_ble_eq_true rfl) rfl rfl (Nat.zero_le _) (Nat.zero_le _) ?_
          refine aw_isub dX1_isScaled_53 ?_
          refine aw_istore [(6, .int (64 - (sJ13_nlz (-x2)))), (4, .long (-x2)), (0, .int x1), (1, .long x2), (3, .int x3)] dX1_isScaled_54 (Nat.le_of_ble_eq_true rfl) rfl ?_
          refine aw_iload dX1_isScaled_56 0 rfl ?_
          refine aw_iload_n dX1_isScaled_58 2 rfl ?_
          refine aw_bipush (v := 6) dX1_isScaled_59 (by decide) ?_
          refine aw_icmp_ne 69 dX1_isScaled_61 (by decide) (fun c12 => ?_) (fun c12 => ?_)
          · refine aw_bipush (v := 53) dX1_isScaled_69 (by decide) ?_
            refine aw_icmp_le 76 dX1_isScaled_71 (by decide) (fun c13 => ?_) (fun c13 => ?_)
            · refine aw_lload dX1_isScaled_76 1 rfl ?_
              refine aw_lconst (v := 1) dX1_isScaled_78 (by decide) ?_
              refine aw_leq 92 dX1_isScaled_79 dX1_isScaled_80 (by decide) (fun c14 => ?_) (fun c14 => ?_)
              · refine aw_iconst (v := 1) dX1_isScaled_92 (by decide) ?_
                refine aw_goto 97 dX1_isScaled_93 (by decide) ?_
                refine aw_zret dX1_isScaled_97 rfl rfl (Nat.zero_le _) (Nat.zero_le _) ?_
                exact ⟨congrArg (fun z => some (Value.int (bz z))) (show sX1_isScaled x1 x2 x3 = true by unfold sX1_isScaled; rw [if_neg c1, if_neg c2, if_pos c3, if_neg c4, if_neg c12, if_pos c13, if_pos c14]).symm, rfl⟩
              · refine aw_iload dX1_isScaled_83 0 rfl ?_
                refine aw_iload_n dX1_isScaled_85 4 rfl ?_
                refine aw_iadd dX1_isScaled_86 ?_
                refine aw_bipush (v := 66) dX1_isScaled_87 (by decide) ?_
                refine aw_icmp_gt 96 dX1_isScaled_89 (by decide) (fun c15 => ?_) (fun c15 => ?_)
                · refine aw_iconst (v := 0) dX1_isScaled_96 (by decide) ?_
                  refine aw_zret dX1_isScaled_97 rfl rfl (Nat.zero_le _) (Nat.zero_le _) ?_
                  exact ⟨congrArg (fun z => some (Value.int (bz z))) (show sX1_isScaled x1 x2 x3 = false by unfold sX1_isScaled; rw [if_neg c1, if_neg c2, if_pos c3, if_neg c4, if_neg c12, if_pos c13, if_neg c14, if_pos c15]).symm, rfl⟩
                · refine aw_iconst (v := 1) dX1_isScaled_92 (by decide) ?_
                  refine aw_goto 97 dX1_isScaled_93 (by decide) ?_
                  refine aw_zret dX1_isScaled_97 rfl rfl (Nat.zero_le _) (Nat.zero_le _) ?_
                  exact ⟨congrArg (fun z => some (Value.int (bz z))) (show sX1_isScaled x1 x2 x3 = true by unfold sX1_isScaled; rw [if_neg c1, if_neg c2, if_pos c3, if_neg c4, if_neg c12, if_pos c13, if_neg c14, if_neg c15]).symm, rfl⟩
            · refine aw_iconst (v := 0) dX1_isScaled_74 (by decide) ?_
              refine aw_zret dX1_isScaled_75 rfl rfl (Nat.zero_le _) (Nat.zero_le _) ?_
              exact ⟨congrArg (fun z => some (Value.int (bz z))) (show sX1_isScaled x1 x2 x3 = false by unfold sX1_isScaled; rw [if_neg c1, if_neg c2, if_pos c3, if_neg c4, if_neg c12, if_neg c13]).symm, rfl⟩
          · refine aw_bipush (v := 24) dX1_isScaled_64 (by decide) ?_
            refine aw_goto 71 dX1_isScaled_66 (by decide) ?_
            refine aw_icmp_le 76 dX1_isScaled_71 (by decide) (fun c16 => ?_) (fun c16 => ?_)
            · refine aw_lload dX1_isScaled_76 1 rfl ?_
              refine aw_lconst (v := 1) dX1_isScaled_78 (by decide) ?_
              refine aw_leq 92 dX1_isScaled_79 dX1_isScaled_80 (by decide) (fun c17 => ?_) (fun c17 => ?_)
              · refine aw_iconst (v := 1) dX1_isScaled_92 (by decide) ?_
                refine aw_goto 97 dX1_isScaled_93 (by decide) ?_
                refine aw_zret dX1_isScaled_97 rfl rfl (Nat.zero_le _) (Nat.zero_le _) ?_
                exact ⟨congrArg (fun z => some (Value.int (bz z))) (show sX1_isScaled x1 x2 x3 = true by unfold sX1_isScaled; rw [if_neg c1, if_neg c2, if_pos c3, if_neg c4, if_pos c12, if_pos c16, if_pos c17]).symm, rfl⟩
              · refine aw_iload dX1_isScaled_83 0 rfl ?_
                refine aw_iload_n dX1_isScaled_85 4 rfl ?_
                refine aw_iadd dX1_isScaled_86 ?_
                refine aw_bipush (v := 66) dX1_isScaled_87 (by decide) ?_
                refine aw_icmp_gt 96 dX1_isScaled_89 (by decide) (fun c18 => ?_) (fun c18 => ?_)
                · refine aw_iconst (v := 0) dX1_isScaled_96 (by decide) ?_
                  refine aw_zret dX1_isScaled_97 rfl rfl (Nat.zero_le _) (Nat.zero_le _) ?_
                  exact ⟨congrArg (fun z => some (Value.int (bz z))) (show sX1_isScaled x1 x2 x3 = false by unfold sX1_isScaled; rw [if_neg c1, if_neg c2, if_pos c3, if_neg c4, if_pos c12, if_pos c16, if_neg c17, if_pos c18]).symm, rfl⟩
                · refine aw_iconst (v := 1) dX1_isScaled_92 (by decide) ?_
                  refine aw_goto 97 dX1_isScaled_93 (by decide) ?_
                  refine aw_zret dX1_isScaled_97 rfl rfl (Nat.zero_le _) (Nat.zero_le _) ?_
                  exact ⟨congrArg (fun z => some (Value.int (bz z))) (show sX1_isScaled x1 x2 x3 = true by unfold sX1_isScaled; rw [if_neg c1, if_neg c2, if_pos c3, if_neg c4, if_pos c12, if_pos c16, if_neg c17, if_neg c18]).symm, rfl⟩
            · refine aw_iconst (v := 0) dX1_isScaled_74 (by decide) ?_
              refine aw_zret dX1_isScaled_75 rfl rfl (Nat.zero_le _) (Nat.zero_le _) ?_
              exact ⟨congrArg (fun z => some (Value.int (bz z))) (show sX1_isScaled x1 x2 x3 = false by unfold sX1_isScaled; rw [if_neg c1, if_neg c2, if_pos c3, if_neg c4, if_pos c12, if_neg c16]).symm, rfl⟩
      · refine aw_iconst (v := 0) dX1_isScaled_30 (by decide) ?_
        refine aw_zret dX1_isScaled_31 rfl rfl (Nat.zero_le _) (Nat.zero_le _) ?_
        exact ⟨congrArg (fun z => some (Value.int (bz z))) (show sX1_isScaled x1 x2 x3 = false by unfold sX1_isScaled; rw [if_neg c1, if_neg c2, if_neg c3]).symm, rfl⟩
  · refine aw_iload_n dX1_isScaled_6 2 rfl ?_
    refine aw_if_ne 14 dX1_isScaled_7 (by decide) (fun c19 => ?_) (fun c19 => ?_)
    · refine aw_iconst (v := 0) dX1_isScaled_14 (by decide) ?_
      refine aw_zret dX1_isScaled_15 rfl rfl (Nat.zero_le _) (Nat.zero_le _) ?_
      exact ⟨congrArg (fun z => some (Value.int (bz z))) (show sX1_isScaled x1 x2 x3 = false by unfold sX1_isScaled; rw [if_pos c1, if_neg c19]).symm, rfl⟩
    · refine aw_iconst (v := 1) dX1_isScaled_10 (by decide) ?_
      refine aw_goto 15 dX1_isScaled_11 (by decide) ?_
      refine aw_zret dX1_isScaled_15 rfl rfl (Nat.zero_le _) (Nat.zero_le _) ?_
      exact ⟨congrArg (fun z => some (Value.int (bz z))) (show sX1_isScaled x1 x2 x3 = true by unfold sX1_isScaled; rw [if_pos c1, if_pos c19]).symm, rfl⟩
-- READING: the parser as a function of the bytes B, of which L stand
def folB (B : Nat → Nat) : Nat → Nat → Int64 → Int64
  | 0, _, v => v
  | n + 1, i, v => folB B n (i + 1) ((v <<< ((Int32.toInt64 8) &&& 63)) ||| lN (B i))
def sgB (B : Nat → Nat) (p n : Nat) : Int64 := folB B n p (if B p < 128 then 0 else -1)
def numI (B : Nat → Nat) (k p : Nat) : Int64 := if k = 2 then sgB B p (wdK k) &&& 65535 else sgB B p (wdK k)
def numV (B : Nat → Nat) (k p : Nat) : Option Int64 :=
  if k < 6 then (if sX0_fits (nI k) (numI B k p) = true then some (numI B k p) else none)
  else (if sX1_isScaled (nI k) (sgB B (p + 1) (wdK k)) (nI (B p)) = true then some (sX0_scaledBits (nI k) (sgB B (p + 1) (wdK k)) (nI (B p))) else none)
def wid2 (k : Nat) : Nat := if k < 6 then wdK k else wdK k + 1
abbrev pV : Type := Except Nat (Int64 × Nat)
def pNum (B : Nat → Nat) (L k p : Nat) : pV := if p + wid2 k ≤ L then (match numV B k p with
  | some v => .ok (v, p + wid2 k)
  | none => .error p) else .error p
def orB (v : Int64) (b n : Nat) : Int64 := v ||| ((lN (b % 128)) <<< ((Int32.toInt64 (nI (7 * n))) &&& 63))
def unz (v : Int64) : Int64 := (((Int64.toUInt64 v) >>> ((Int32.toInt64 1).toUInt64 &&& Int64.toUInt64 63)).toInt64) ^^^ (-(v &&& 1))
def pStep (B : Nat → Nat) (L p : Nat) : Nat → Nat → Int64 → pV
  | 0, _, _ => .error p
  | g + 1, n, v => if p + n < L then (if n = 9 ∧ 1 < B (p + n) then .error p else if 128 ≤ B (p + n) then pStep B L p g (n + 1) (orB v (B (p + n)) n) else if B (p + n) = 0 ∧ 0 < n then .error p else .ok (unz (orB v (B (p + n)) n), p + (n + 1))) else .error p
def pLet (B : Nat → Nat) (L : Nat) : Nat → Nat → Nat → pV
  | 0, c, p => .ok (lN c, p)
  | n + 1, c, p => if p < L ∧ 97 ≤ B p ∧ B p ≤ 122 then pLet B L n (27 * c + (B p - 96)) (p + 1) else .error p
def pWord (B : Nat → Nat) (L p : Nat) : pV := if p < L ∧ 1 ≤ B p ∧ B p ≤ 7 then pLet B L (B p) 0 (p + 1) else .error p
def pBead (B : Nat → Nat) (L a p : Nat) : pV := if p < L ∧ a ≤ B p ∧ B p < 6 then .ok (lN (B p), p + 1) else .error p
def pLink (B : Nat → Nat) (L : Nat) (K : Nat → Nat) (u k p : Nat) : pV := if p < L ∧ B p < u ∧ (k = 13 → K (B p) = 4) then .ok (lN (B p), p + 1) else .error p
-- what the class's reader needs
def RdS (M : xM) (so N : Nat) (B : Nat → Nat) (L : Nat) : Prop := TC M ∧ mR M 8 4 = some so ∧ StripAt M so N ∧ N < 100000 ∧ L ≤ N ∧ so < 6 ∧ mI M so 1 = nI L ∧ ∀ i, i < L → mI M (so + 1) i = nI (B i) ∧ B i < 256
theorem RdS.k {M M' : xM} {so N : Nat} {B : Nat → Nat} {L : Nat} (h : RdS M so N B L) (hT : sT M M') (hI : ∀ x, x < 8 → mI M' x = mI M x) : RdS M' so N B L := by
  obtain ⟨h1, h2, h3, h4, h5, h6, h7, h8⟩ := h
  refine ⟨hT.TC h1, by rw [hT.2.2]; exact h2, hT.strip h3, h4, h5, h6, by rw [hI so (by omega)]; exact h7, fun i hi => by rw [hI (so + 1) (by omega)]; exact h8 i hi⟩
theorem sp_at {d : Nat} {M : xM} {so N : Nat} {B : Nat → Nat} {L p : Nat} (h : RdS M so N B L) (hp : p < L) : Sp (fX3_at d) [.ref so, .int (nI p)] M (dt (some (.int (nI (B p)))) M) := by
  obtain ⟨h1, h2, h3, h4, h5, h6, h7, h8⟩ := h
  have q := sp_X3_at (d := d) (Nat.zero_le _) (nI p) h3 ⟨L, h5, h4, h7⟩
  have e : sX3_at M so (nI p) = nI (B p) := by
    unfold sX3_at
    rw [if_neg (nI_nn (by omega)), h7, if_neg (fun z => by have := (E32 (by omega) (by omega)).mp z; omega), nI_clamp (by omega)]
    exact (h8 p hp).1
  rw [e] at q
  exact q
theorem sp_atn {d : Nat} {M : xM} {so N : Nat} {B : Nat → Nat} {L p : Nat} (h : RdS M so N B L) (hp : ¬ p < L) (hp2 : p < 2 ^ 31) : Sp (fX3_at d) [.ref so, .int (nI p)] M (dt (some (.int (-1))) M) := by
  obtain ⟨h1, h2, h3, h4, h5, h6, h7, h8⟩ := h
  have q := sp_X3_at (d := d) (Nat.zero_le _) (nI p) h3 ⟨L, h5, h4, h7⟩
  have e : sX3_at M so (nI p) = -1 := by
    unfold sX3_at
    rw [if_neg (nI_nn (by omega)), h7, if_pos ((E32 (by omega) (by omega)).mpr (by omega))]
  rw [e] at q
  exact q
def vpM (M : xM) (v : Int64) (p : Nat) : xM := stI (stL M 8 5 v) 8 2 (nI p)
theorem sT_vpM (M : xM) (v : Int64) (p : Nat) : sT M (vpM M v p) := ⟨rfl, rfl, rfl⟩
theorem vpM_I (M : xM) {v : Int64} {p x : Nat} (h : x ≠ 8) : mI (vpM M v p) x = mI M x := mI_stI_c _ _ _ h
theorem vpM_L (M : xM) {v : Int64} {p x : Nat} (h : x ≠ 8) : mL (vpM M v p) x = mL M x := mL_stL_c _ _ _ h
theorem vpM_p (M : xM) (v : Int64) (p : Nat) : mI (vpM M v p) 8 2 = nI p := mI_stI_v _ _ _ _
theorem vpM_o (M : xM) (v : Int64) (p : Nat) {k : Nat} (h : k ≠ 2) : mI (vpM M v p) 8 k = mI M 8 k := mI_stI_o _ _ _ _ h
theorem vpM_v (M : xM) (v : Int64) (p : Nat) : mL (vpM M v p) 8 5 = v := xup_s M.2.1 8 5 v
theorem xup_2 {α : Type} (f : Nat → Nat → α) (a k : Nat) (v w : α) : xup (xup f a k v) a k w = xup f a k w := by
  funext x y
  unfold xup
  by_cases h1 : x = a
  · by_cases h2 : y = k
    · rw [if_pos h1, if_pos h2, if_pos h1, if_pos h2]
    · rw [if_pos h1, if_neg h2, if_pos h1, if_neg h2, if_pos h1, if_neg h2]
  · rw [if_neg h1, if_neg h1, if_neg h1]
theorem vpM_2 (M : xM) (v w : Int64) (p q : Nat) : vpM (vpM M v p) w q = vpM M w q := by
  have e1 := xup_2 M.1 8 2 (nI p) (nI q)
  have e2 := xup_2 M.2.1 8 5 v w
  show (xup (xup M.1 8 2 (nI p)) 8 2 (nI q), xup (xup M.2.1 8 5 v) 8 5 w, M.2.2) = (xup M.1 8 2 (nI q), xup M.2.1 8 5 w, M.2.2)
  rw [e1, e2]
def Er (M : xM) (f : Nat) (A : xM) : Prop := sT M A ∧ (∀ x, x ≠ 8 → mI A x = mI M x) ∧ (∀ x, x ≠ 8 → mL A x = mL M x) ∧ mI A 8 3 = nI f
theorem Er_f (M : xM) (f : Nat) : Er M f (stI M 8 3 (nI f)) := ⟨⟨rfl, rfl, rfl⟩, fun x h => mI_stI_c _ _ _ h, fun x h => rfl, mI_stI_v _ _ _ _⟩
theorem Er_t {M M' A : xM} {f : Nat} (hT : sT M M') (h1 : ∀ x, x ≠ 8 → mI M' x = mI M x) (h2 : ∀ x, x ≠ 8 → mL M' x = mL M x) (h : Er M' f A) : Er M f A := ⟨hT.tr h.1, fun x hx => (h.2.1 x hx).trans (h1 x hx), fun x hx => (h.2.2.1 x hx).trans (h2 x hx), h.2.2.2⟩
theorem Er_v {M A : xM} {v : Int64} {p f : Nat} (h : Er (vpM M v p) f A) : Er M f A := Er_t (sT_vpM M v p) (fun x hx => vpM_I M hx) (fun x hx => vpM_L M hx) h
theorem Er_p {M A : xM} {x : Int32} {f : Nat} (h : Er (stI M 8 2 x) f A) : Er M f A := Er_t (M' := stI M 8 2 x) ⟨rfl, rfl, rfl⟩ (fun x hx => mI_stI_c _ _ _ hx) (fun x hx => rfl) h
theorem Er_l {M A : xM} {x : Int64} {f : Nat} (h : Er (stL M 8 5 x) f A) : Er M f A := Er_t (M' := stL M 8 5 x) ⟨rfl, rfl, rfl⟩ (fun x hx => rfl) (fun x hx => mL_stL_c _ _ _ hx) h
def PL (M : xM) (q : pV) : Option Value → xM → Prop := fun r A => match q with
  | .ok vp => r = some (.int 1) ∧ A = vpM M vp.1 vp.2
  | .error f => r = some (.int 0) ∧ Er M f A
theorem PL_v {M : xM} {v : Int64} {p : Nat} {q : pV} {r : Option Value} {A : xM} (h : PL (vpM M v p) q r A) : PL M q r A := by
  cases q with
  | error f => exact ⟨h.1, Er_v h.2⟩
  | ok vp => exact ⟨h.1, h.2.trans (vpM_2 M v vp.1 p vp.2)⟩
theorem RdS.v {M : xM} {so N : Nat} {B : Nat → Nat} {L : Nat} (h : RdS M so N B L) (v : Int64) (p : Nat) : RdS (vpM M v p) so N B L := h.k (sT_vpM M v p) (fun x hx => vpM_I M (by omega))
theorem RdS.i {M : xM} {so N : Nat} {B : Nat → Nat} {L : Nat} (h : RdS M so N B L) (k : Nat) (x : Int32) : RdS (stI M 8 k x) so N B L := h.k ⟨rfl, rfl, rfl⟩ (fun x hx => mI_stI_c _ _ _ (by omega))
theorem RdS.l {M : xM} {so N : Nat} {B : Nat → Nat} {L : Nat} (h : RdS M so N B L) (k : Nat) (x : Int64) : RdS (stL M 8 k x) so N B L := h.k ⟨rfl, rfl, rfl⟩ (fun x hx => rfl)
theorem sp_X1_failAt {d : Nat} {M : xM} (x : Int32) (hT : TC M) : Sp (fX1_failAt d) [.ref 8, .int x] M (dt (some (.int 0)) (stI M 8 3 x)) := by
  refine Sp.of pn_X1 (Nat.le_of_ble_eq_true rfl) (fun h => Bool.noConfusion h) ?_
  refine aw_aload_n dX1_failAt_0 0 rfl ?_
  refine aw_iload_n dX1_failAt_1 1 rfl ?_
  refine aw_putI dX1_failAt_2 fl_X1_24 (Or.inl rfl) (hT.s 8 (by decide)) (hT.n 8 (by decide)) ?_
  refine aw_iconst (v := 0) dX1_failAt_5 (by decide) ?_
  refine aw_zret dX1_failAt_6 rfl rfl (Nat.zero_le _) (Nat.zero_le _) ?_
  exact ⟨rfl, rfl⟩
theorem lp_sg {d : Nat} {M : xM} {so N : Nat} {B : Nat → Nat} {L a n : Nat} (hd : 1 ≤ d) (hS : RdS M so N B L) (hl : a + n ≤ L) : ∀ j i v, i + j = a + n → AW (fX1_signedAt d) 25 [(5, .int (nI i)), (3, .long v), (0, .ref 8), (1, .int (nI a)), (2, .int (nI (a + n)))] [] M 0 0 (dt (some (.long (folB B j i v))) M) := by
  have hL1 := hS.2.2.2.1
  have hL2 := hS.2.2.2.2.1
  intro j
  induction j with
  | zero =>
    intro i v hi
    refine aw_iload dX1_signedAt_25 0 rfl ?_
    refine aw_iload_n dX1_signedAt_27 4 rfl ?_
    refine aw_icmp_geN i (a + n) 53 dX1_signedAt_28 (by decide) rfl rfl (by omega) (by omega) (fun c1 => ?_) (fun c1 => absurd (by omega) c1)
    refine aw_lload_n dX1_signedAt_53 1 rfl ?_
    refine aw_lret dX1_signedAt_54 rfl (Nat.zero_le _) (Nat.zero_le _) ?_
    exact ⟨rfl, rfl⟩
  | succ j ih =>
    intro i v hi
    have hb := (hS.2.2.2.2.2.2.2 i (by omega)).2
    have g := ih (i + 1) ((v <<< ((Int32.toInt64 8) &&& 63)) ||| lN (B i)) (by omega)
    refine aw_iload dX1_signedAt_25 0 rfl ?_
    refine aw_iload_n dX1_signedAt_27 4 rfl ?_
    refine aw_icmp_geN i (a + n) 53 dX1_signedAt_28 (by decide) rfl rfl (by omega) (by omega) (fun c1 => absurd c1 (by omega)) (fun c1 => ?_)
    refine aw_lload_n dX1_signedAt_31 1 rfl ?_
    refine aw_bipush (v := 8) dX1_signedAt_32 (by decide) ?_
    refine aw_lshl dX1_signedAt_34 ?_
    refine aw_aload_n dX1_signedAt_35 2 rfl ?_
    refine aw_getR (b := so) dX1_signedAt_36 fl_X1_31 rfl (hS.1.s 8 (by decide)) (hS.1.n 8 (by decide)) hS.2.1 ?_
    refine aw_iload dX1_signedAt_39 0 rfl ?_
    refine aw_callVi [.int (nI i)] [.long (v <<< ((Int32.toInt64 8) &&& 63))] (sp_at (d := d - 1) hS (by omega)) dX1_signedAt_41 ml_X1_36 im_X3_at hS.2.2.1.1 hS.2.2.1.n0 rfl rfl (dl1 (d := d) (by omega)) rfl rfl (Nat.le_of_ble_eq_true rfl) rfl rfl (Nat.zero_le _) (Nat.zero_le _) ?_
    refine aw_i2lN (B i) dX1_signedAt_44 rfl (by omega) ?_
    refine aw_lor dX1_signedAt_45 ?_
    refine aw_lstore_n [(3, .long ((v <<< ((Int32.toInt64 8) &&& 63)) ||| (lN (B i)))), (5, .int (nI i)), (0, .ref 8), (1, .int (nI a)), (2, .int (nI (a + n)))] dX1_signedAt_46 (Nat.le_of_ble_eq_true rfl) rfl ?_
    refine aw_iincN i 1 [(5, .int (nI (i + 1))), (3, .long ((v <<< ((Int32.toInt64 8) &&& 63)) ||| (lN (B i)))), (0, .ref 8), (1, .int (nI a)), (2, .int (nI (a + n)))] dX1_signedAt_47 1 rfl rfl rfl (Nat.le_of_ble_eq_true rfl) rfl ?_
    refine aw_goto 25 dX1_signedAt_50 (by decide) ?_
    exact g
theorem sp_sg {d : Nat} {M : xM} {so N : Nat} {B : Nat → Nat} {L a n : Nat} (hd : 1 ≤ d) (hS : RdS M so N B L) (hn : 0 < n) (hl : a + n ≤ L) : Sp (fX1_signedAt d) [.ref 8, .int (nI a), .int (nI (a + n))] M (dt (some (.long (sgB B a n))) M) := by
  refine Sp.of pn_X1 (Nat.le_of_ble_eq_true rfl) (fun h => Bool.noConfusion h) ?_
  have hL1 := hS.2.2.2.1
  have hL2 := hS.2.2.2.2.1
  have hb := (hS.2.2.2.2.2.2.2 a (by omega)).2
  unfold sgB
  by_cases c : B a < 128
  · rw [if_pos c]
    refine aw_aload_n dX1_signedAt_0 0 rfl ?_
    refine aw_getR (b := so) dX1_signedAt_1 fl_X1_31 rfl (hS.1.s 8 (by decide)) (hS.1.n 8 (by decide)) hS.2.1 ?_
    refine aw_iload_n dX1_signedAt_4 1 rfl ?_
    refine aw_callVi [.int (nI a)] [] (sp_at (d := d - 1) hS (by omega)) dX1_signedAt_5 ml_X1_36 im_X3_at hS.2.2.1.1 hS.2.2.1.n0 rfl rfl (dl1 (d := d) (by omega)) rfl rfl (Nat.le_of_ble_eq_true rfl) rfl rfl (Nat.zero_le _) (Nat.zero_le _) ?_
    refine aw_sipush (v := 128) dX1_signedAt_8 (by decide) ?_
    refine aw_icmp_ltN (B a) 128 20 dX1_signedAt_11 (by decide) rfl rfl (by omega) (by omega) (fun c1 => ?_) (fun c1 => absurd (by omega) c1)
    refine aw_lconst (v := 0) dX1_signedAt_20 (by decide) ?_
    refine aw_lstore_n [(3, .long 0), (0, .ref 8), (1, .int (nI a)), (2, .int (nI (a + n)))] dX1_signedAt_21 (Nat.le_of_ble_eq_true rfl) rfl ?_
    refine aw_iload_n dX1_signedAt_22 2 rfl ?_
    refine aw_istore [(5, .int (nI a)), (3, .long 0), (0, .ref 8), (1, .int (nI a)), (2, .int (nI (a + n)))] dX1_signedAt_23 (Nat.le_of_ble_eq_true rfl) rfl ?_
    exact lp_sg hd hS hl n a _ (by omega)
  · rw [if_neg c]
    refine aw_aload_n dX1_signedAt_0 0 rfl ?_
    refine aw_getR (b := so) dX1_signedAt_1 fl_X1_31 rfl (hS.1.s 8 (by decide)) (hS.1.n 8 (by decide)) hS.2.1 ?_
    refine aw_iload_n dX1_signedAt_4 1 rfl ?_
    refine aw_callVi [.int (nI a)] [] (sp_at (d := d - 1) hS (by omega)) dX1_signedAt_5 ml_X1_36 im_X3_at hS.2.2.1.1 hS.2.2.1.n0 rfl rfl (dl1 (d := d) (by omega)) rfl rfl (Nat.le_of_ble_eq_true rfl) rfl rfl (Nat.zero_le _) (Nat.zero_le _) ?_
    refine aw_sipush (v := 128) dX1_signedAt_8 (by decide) ?_
    refine aw_icmp_ltN (B a) 128 20 dX1_signedAt_11 (by decide) rfl rfl (by omega) (by omega) (fun c1 => absurd c1 (by omega)) (fun c1 => ?_)
    refine aw_ldc2 dX1_signedAt_14 kc_X1_146 ?_
    refine aw_goto 21 dX1_signedAt_17 (by decide) ?_
    refine aw_lstore_n [(3, .long (-1)), (0, .ref 8), (1, .int (nI a)), (2, .int (nI (a + n)))] dX1_signedAt_21 (Nat.le_of_ble_eq_true rfl) rfl ?_
    refine aw_iload_n dX1_signedAt_22 2 rfl ?_
    refine aw_istore [(5, .int (nI a)), (3, .long (-1)), (0, .ref 8), (1, .int (nI a)), (2, .int (nI (a + n)))] dX1_signedAt_23 (Nat.le_of_ble_eq_true rfl) rfl ?_
    exact lp_sg hd hS hl n a _ (by omega)
