-- LEADING AND TRAILING ZEROS
theorem aw_ldcw {F : xF} {pc cs ss : Nat} {lv : List (Nat × Value)} {st : List Value} {M : xM} {post : Option Value → xM → Prop} {i : Nat} {v : Int32} (hd : decode F.2.1 pc = .ok (.ldc_w i, 3)) (hw : Cond.constant F.1.cls i v ∈ gt) (k : AW F (pc + 3) lv (.int v :: st) M cs ss post) : AW F pc lv st M cs ss post := by
  intro K p l e s m args below meth c H locs ls Q hF hP hS hl hk
  exact lv_ldcw hF.1 hF.2.1 hF.2.2.2.2.1 (hF.2.2.2.2.2.1 _ hw) hd (k K p l e s m args below meth c H locs ls Q hF hP hS hl hk)
def sJ6_nlz (x1 : Int32) : Int32 := (if 0 < x1 then (if x1 < 65536 then (if x1 < 256 then (if x1 < 16 then (if x1 < 4 then 31 - (((Int32.toUInt32 x1) >>> ((Int32.toUInt32 1) &&& Int32.toUInt32 31)).toInt32) else 29 - (((Int32.toUInt32 (((Int32.toUInt32 x1) >>> ((Int32.toUInt32 2) &&& Int32.toUInt32 31)).toInt32)) >>> ((Int32.toUInt32 1) &&& Int32.toUInt32 31)).toInt32)) else (if (((Int32.toUInt32 x1) >>> ((Int32.toUInt32 4) &&& Int32.toUInt32 31)).toInt32) < 4 then 27 - (((Int32.toUInt32 (((Int32.toUInt32 x1) >>> ((Int32.toUInt32 4) &&& Int32.toUInt32 31)).toInt32)) >>> ((Int32.toUInt32 1) &&& Int32.toUInt32 31)).toInt32) else 25 - (((Int32.toUInt32 (((Int32.toUInt32 (((Int32.toUInt32 x1) >>> ((Int32.toUInt32 4) &&& Int32.toUInt32 31)).toInt32)) >>> ((Int32.toUInt32 2) &&& Int32.toUInt32 31)).toInt32)) >>> ((Int32.toUInt32 1) &&& Int32.toUInt32 31)).toInt32))) else (if (((Int32.toUInt32 x1) >>> ((Int32.toUInt32 8) &&& Int32.toUInt32 31)).toInt32) < 16 then (if (((Int32.toUInt32 x1) >>> ((Int32.toUInt32 8) &&& Int32.toUInt32 31)).toInt32) < 4 then 23 - (((Int32.toUInt32 (((Int32.toUInt32 x1) >>> ((Int32.toUInt32 8) &&& Int32.toUInt32 31)).toInt32)) >>> ((Int32.toUInt32 1) &&& Int32.toUInt32 31)).toInt32) else 21 - (((Int32.toUInt32 (((Int32.toUInt32 (((Int32.toUInt32 x1) >>> ((Int32.toUInt32 8) &&& Int32.toUInt32 31)).toInt32)) >>> ((Int32.toUInt32 2) &&& Int32.toUInt32 31)).toInt32)) >>> ((Int32.toUInt32 1) &&& Int32.toUInt32 31)).toInt32)) else (if (((Int32.toUInt32 (((Int32.toUInt32 x1) >>> ((Int32.toUInt32 8) &&& Int32.toUInt32 31)).toInt32)) >>> ((Int32.toUInt32 4) &&& Int32.toUInt32 31)).toInt32) < 4 then 19 - (((Int32.toUInt32 (((Int32.toUInt32 (((Int32.toUInt32 x1) >>> ((Int32.toUInt32 8) &&& Int32.toUInt32 31)).toInt32)) >>> ((Int32.toUInt32 4) &&& Int32.toUInt32 31)).toInt32)) >>> ((Int32.toUInt32 1) &&& Int32.toUInt32 31)).toInt32) else 17 - (((Int32.toUInt32 (((Int32.toUInt32 (((Int32.toUInt32 (((Int32.toUInt32 x1) >>> ((Int32.toUInt32 8) &&& Int32.toUInt32 31)).toInt32)) >>> ((Int32.toUInt32 4) &&& Int32.toUInt32 31)).toInt32)) >>> ((Int32.toUInt32 2) &&& Int32.toUInt32 31)).toInt32)) >>> ((Int32.toUInt32 1) &&& Int32.toUInt32 31)).toInt32)))) else (if (((Int32.toUInt32 x1) >>> ((Int32.toUInt32 16) &&& Int32.toUInt32 31)).toInt32) < 256 then (if (((Int32.toUInt32 x1) >>> ((Int32.toUInt32 16) &&& Int32.toUInt32 31)).toInt32) < 16 then (if (((Int32.toUInt32 x1) >>> ((Int32.toUInt32 16) &&& Int32.toUInt32 31)).toInt32) < 4 then 15 - (((Int32.toUInt32 (((Int32.toUInt32 x1) >>> ((Int32.toUInt32 16) &&& Int32.toUInt32 31)).toInt32)) >>> ((Int32.toUInt32 1) &&& Int32.toUInt32 31)).toInt32) else 13 - (((Int32.toUInt32 (((Int32.toUInt32 (((Int32.toUInt32 x1) >>> ((Int32.toUInt32 16) &&& Int32.toUInt32 31)).toInt32)) >>> ((Int32.toUInt32 2) &&& Int32.toUInt32 31)).toInt32)) >>> ((Int32.toUInt32 1) &&& Int32.toUInt32 31)).toInt32)) else (if (((Int32.toUInt32 (((Int32.toUInt32 x1) >>> ((Int32.toUInt32 16) &&& Int32.toUInt32 31)).toInt32)) >>> ((Int32.toUInt32 4) &&& Int32.toUInt32 31)).toInt32) < 4 then 11 - (((Int32.toUInt32 (((Int32.toUInt32 (((Int32.toUInt32 x1) >>> ((Int32.toUInt32 16) &&& Int32.toUInt32 31)).toInt32)) >>> ((Int32.toUInt32 4) &&& Int32.toUInt32 31)).toInt32)) >>> ((Int32.toUInt32 1) &&& Int32.toUInt32 31)).toInt32) else 9 - (((Int32.toUInt32 (((Int32.toUInt32 (((Int32.toUInt32 (((Int32.toUInt32 x1) >>> ((Int32.toUInt32 16) &&& Int32.toUInt32 31)).toInt32)) >>> ((Int32.toUInt32 4) &&& Int32.toUInt32 31)).toInt32)) >>> ((Int32.toUInt32 2) &&& Int32.toUInt32 31)).toInt32)) >>> ((Int32.toUInt32 1) &&& Int32.toUInt32 31)).toInt32))) else (if (((Int32.toUInt32 (((Int32.toUInt32 x1) >>> ((Int32.toUInt32 16) &&& Int32.toUInt32 31)).toInt32)) >>> ((Int32.toUInt32 8) &&& Int32.toUInt32 31)).toInt32) < 16 then (if (((Int32.toUInt32 (((Int32.toUInt32 x1) >>> ((Int32.toUInt32 16) &&& Int32.toUInt32 31)).toInt32)) >>> ((Int32.toUInt32 8) &&& Int32.toUInt32 31)).toInt32) < 4 then 7 - (((Int32.toUInt32 (((Int32.toUInt32 (((Int32.toUInt32 x1) >>> ((Int32.toUInt32 16) &&& Int32.toUInt32 31)).toInt32)) >>> ((Int32.toUInt32 8) &&& Int32.toUInt32 31)).toInt32)) >>> ((Int32.toUInt32 1) &&& Int32.toUInt32 31)).toInt32) else 5 - (((Int32.toUInt32 (((Int32.toUInt32 (((Int32.toUInt32 (((Int32.toUInt32 x1) >>> ((Int32.toUInt32 16) &&& Int32.toUInt32 31)).toInt32)) >>> ((Int32.toUInt32 8) &&& Int32.toUInt32 31)).toInt32)) >>> ((Int32.toUInt32 2) &&& Int32.toUInt32 31)).toInt32)) >>> ((Int32.toUInt32 1) &&& Int32.toUInt32 31)).toInt32)) else (if (((Int32.toUInt32 (((Int32.toUInt32 (((Int32.toUInt32 x1) >>> ((Int32.toUInt32 16) &&& Int32.toUInt32 31)).toInt32)) >>> ((Int32.toUInt32 8) &&& Int32.toUInt32 31)).toInt32)) >>> ((Int32.toUInt32 4) &&& Int32.toUInt32 31)).toInt32) < 4 then 3 - (((Int32.toUInt32 (((Int32.toUInt32 (((Int32.toUInt32 (((Int32.toUInt32 x1) >>> ((Int32.toUInt32 16) &&& Int32.toUInt32 31)).toInt32)) >>> ((Int32.toUInt32 8) &&& Int32.toUInt32 31)).toInt32)) >>> ((Int32.toUInt32 4) &&& Int32.toUInt32 31)).toInt32)) >>> ((Int32.toUInt32 1) &&& Int32.toUInt32 31)).toInt32) else 1 - (((Int32.toUInt32 (((Int32.toUInt32 (((Int32.toUInt32 (((Int32.toUInt32 (((Int32.toUInt32 x1) >>> ((Int32.toUInt32 16) &&& Int32.toUInt32 31)).toInt32)) >>> ((Int32.toUInt32 8) &&& Int32.toUInt32 31)).toInt32)) >>> ((Int32.toUInt32 4) &&& Int32.toUInt32 31)).toInt32)) >>> ((Int32.toUInt32 2) &&& Int32.toUInt32 31)).toInt32)) >>> ((Int32.toUInt32 1) &&& Int32.toUInt32 31)).toInt32))))) else (if x1 = 0 then 32 else 0))
theorem sp_J6_numberOfLeadingZeros_0f7a4 {d : Nat} (hd : 0 ≤ d) {M : xM} (x1 : Int32)  : Sp (fJ6_numberOfLeadingZeros_0f7a4 d) [.int x1] M (dt (some (.int (sJ6_nlz x1))) (M)) := by
  refine Sp.of pn_J6 (Nat.le_of_ble_eq_true rfl) (fun h => Bool.noConfusion h) ?_
  refine aw_iload_n dJ6_numberOfLeadingZeros_0f7a4_0 0 rfl ?_
  refine aw_if_gt 15 dJ6_numberOfLeadingZeros_0f7a4_1 (by decide) (fun c1 => ?_) (fun c1 => ?_)
  · refine aw_bipush (v := 31) dJ6_numberOfLeadingZeros_0f7a4_15 (by decide) ?_
    refine aw_istore_n [(1, .int 31), (0, .int x1)] dJ6_numberOfLeadingZeros_0f7a4_17 (Nat.le_of_ble_eq_true rfl) rfl ?_
    refine aw_iload_n dJ6_numberOfLeadingZeros_0f7a4_18 1 rfl ?_
    refine aw_ldcw dJ6_numberOfLeadingZeros_0f7a4_19 kc_J6_264 ?_
    refine aw_icmp_lt 33 dJ6_numberOfLeadingZeros_0f7a4_22 (by decide) (fun c2 => ?_) (fun c2 => ?_)
    · refine aw_iload_n dJ6_numberOfLeadingZeros_0f7a4_33 1 rfl ?_
      refine aw_sipush (v := 256) dJ6_numberOfLeadingZeros_0f7a4_34 (by decide) ?_
      refine aw_icmp_lt 48 dJ6_numberOfLeadingZeros_0f7a4_37 (by decide) (fun c3 => ?_) (fun c3 => ?_)
      · refine aw_iload_n dJ6_numberOfLeadingZeros_0f7a4_48 1 rfl ?_
        refine aw_bipush (v := 16) dJ6_numberOfLeadingZeros_0f7a4_49 (by decide) ?_
        refine aw_icmp_lt 61 dJ6_numberOfLeadingZeros_0f7a4_51 (by decide) (fun c4 => ?_) (fun c4 => ?_)
        · refine aw_iload_n dJ6_numberOfLeadingZeros_0f7a4_61 1 rfl ?_
          refine aw_iconst (v := 4) dJ6_numberOfLeadingZeros_0f7a4_62 (by decide) ?_
          refine aw_icmp_lt 73 dJ6_numberOfLeadingZeros_0f7a4_63 (by decide) (fun c5 => ?_) (fun c5 => ?_)
          · refine aw_iload_n dJ6_numberOfLeadingZeros_0f7a4_73 0 rfl ?_
            refine aw_iload_n dJ6_numberOfLeadingZeros_0f7a4_74 1 rfl ?_
            refine aw_iconst (v := 1) dJ6_numberOfLeadingZeros_0f7a4_75 (by decide) ?_
            refine aw_iushr dJ6_numberOfLeadingZeros_0f7a4_76 ?_
            refine aw_isub dJ6_numberOfLeadingZeros_0f7a4_77 ?_
            refine aw_iret dJ6_numberOfLeadingZeros_0f7a4_78 rfl (Nat.zero_le _) (Nat.zero_le _) ?_
            exact ⟨congrArg (fun z => some (Value.int z)) (show sJ6_nlz x1 = 31 - (((Int32.toUInt32 x1) >>> ((Int32.toUInt32 1) &&& Int32.toUInt32 31)).toInt32) by unfold sJ6_nlz; rw [if_pos c1, if_pos c2, if_pos c3, if_pos c4, if_pos c5]).symm, rfl⟩
          · refine aw_iinc 29 [(1, .int 29), (0, .int x1)] dJ6_numberOfLeadingZeros_0f7a4_66 0 rfl (by decide) (Nat.le_of_ble_eq_true rfl) rfl ?_
            refine aw_iload_n dJ6_numberOfLeadingZeros_0f7a4_69 1 rfl ?_
            refine aw_iconst (v := 2) dJ6_numberOfLeadingZeros_0f7a4_70 (by decide) ?_
            refine aw_iushr dJ6_numberOfLeadingZeros_0f7a4_71 ?_
            refine aw_istore_n [(0, .int (((Int32.toUInt32 x1) >>> ((Int32.toUInt32 2) &&& Int32.toUInt32 31)).toInt32)), (1, .int 29)] dJ6_numberOfLeadingZeros_0f7a4_72 (Nat.le_of_ble_eq_true rfl) rfl ?_
            refine aw_iload_n dJ6_numberOfLeadingZeros_0f7a4_73 1 rfl ?_
            refine aw_iload_n dJ6_numberOfLeadingZeros_0f7a4_74 0 rfl ?_
            refine aw_iconst (v := 1) dJ6_numberOfLeadingZeros_0f7a4_75 (by decide) ?_
            refine aw_iushr dJ6_numberOfLeadingZeros_0f7a4_76 ?_
            refine aw_isub dJ6_numberOfLeadingZeros_0f7a4_77 ?_
            refine aw_iret dJ6_numberOfLeadingZeros_0f7a4_78 rfl (Nat.zero_le _) (Nat.zero_le _) ?_
            exact ⟨congrArg (fun z => some (Value.int z)) (show sJ6_nlz x1 = 29 - (((Int32.toUInt32 (((Int32.toUInt32 x1) >>> ((Int32.toUInt32 2) &&& Int32.toUInt32 31)).toInt32)) >>> ((Int32.toUInt32 1) &&& Int32.toUInt32 31)).toInt32) by unfold sJ6_nlz; rw [if_pos c1, if_pos c2, if_pos c3, if_pos c4, if_neg c5]).symm, rfl⟩
        · refine aw_iinc 27 [(1, .int 27), (0, .int x1)] dJ6_numberOfLeadingZeros_0f7a4_54 0 rfl (by decide) (Nat.le_of_ble_eq_true rfl) rfl ?_
          refine aw_iload_n dJ6_numberOfLeadingZeros_0f7a4_57 1 rfl ?_
          refine aw_iconst (v := 4) dJ6_numberOfLeadingZeros_0f7a4_58 (by decide) ?_
          refine aw_iushr dJ6_numberOfLeadingZeros_0f7a4_59 ?_
          refine aw_istore_n [(0, .int (((Int32.toUInt32 x1) >>> ((Int32.toUInt32 4) &&& Int32.toUInt32 31)).toInt32)), (1, .int 27)] dJ6_numberOfLeadingZeros_0f7a4_60 (Nat.le_of_ble_eq_true rfl) rfl ?_
          refine aw_iload_n dJ6_numberOfLeadingZeros_0f7a4_61 0 rfl ?_
          refine aw_iconst (v := 4) dJ6_numberOfLeadingZeros_0f7a4_62 (by decide) ?_
          refine aw_icmp_lt 73 dJ6_numberOfLeadingZeros_0f7a4_63 (by decide) (fun c6 => ?_) (fun c6 => ?_)
          · refine aw_iload_n dJ6_numberOfLeadingZeros_0f7a4_73 1 rfl ?_
            refine aw_iload_n dJ6_numberOfLeadingZeros_0f7a4_74 0 rfl ?_
            refine aw_iconst (v := 1) dJ6_numberOfLeadingZeros_0f7a4_75 (by decide) ?_
            refine aw_iushr dJ6_numberOfLeadingZeros_0f7a4_76 ?_
            refine aw_isub dJ6_numberOfLeadingZeros_0f7a4_77 ?_
            refine aw_iret dJ6_numberOfLeadingZeros_0f7a4_78 rfl (Nat.zero_le _) (Nat.zero_le _) ?_
            exact ⟨congrArg (fun z => some (Value.int z)) (show sJ6_nlz x1 = 27 - (((Int32.toUInt32 (((Int32.toUInt32 x1) >>> ((Int32.toUInt32 4) &&& Int32.toUInt32 31)).toInt32)) >>> ((Int32.toUInt32 1) &&& Int32.toUInt32 31)).toInt32) by unfold sJ6_nlz; rw [if_pos c1, if_pos c2, if_pos c3, if_neg c4, if_pos c6]).symm, rfl⟩
          · refine aw_iinc 25 [(1, .int 25), (0, .int (((Int32.toUInt32 x1) >>> ((Int32.toUInt32 4) &&& Int32.toUInt32 31)).toInt32))] dJ6_numberOfLeadingZeros_0f7a4_66 1 rfl (by decide) (Nat.le_of_ble_eq_true rfl) rfl ?_
            refine aw_iload_n dJ6_numberOfLeadingZeros_0f7a4_69 1 rfl ?_
            refine aw_iconst (v := 2) dJ6_numberOfLeadingZeros_0f7a4_70 (by decide) ?_
            refine aw_iushr dJ6_numberOfLeadingZeros_0f7a4_71 ?_
            refine aw_istore_n [(0, .int (((Int32.toUInt32 (((Int32.toUInt32 x1) >>> ((Int32.toUInt32 4) &&& Int32.toUInt32 31)).toInt32)) >>> ((Int32.toUInt32 2) &&& Int32.toUInt32 31)).toInt32)), (1, .int 25)] dJ6_numberOfLeadingZeros_0f7a4_72 (Nat.le_of_ble_eq_true rfl) rfl ?_
            refine aw_iload_n dJ6_numberOfLeadingZeros_0f7a4_73 1 rfl ?_
            refine aw_iload_n dJ6_numberOfLeadingZeros_0f7a4_74 0 rfl ?_
            refine aw_iconst (v := 1) dJ6_numberOfLeadingZeros_0f7a4_75 (by decide) ?_
            refine aw_iushr dJ6_numberOfLeadingZeros_0f7a4_76 ?_
            refine aw_isub dJ6_numberOfLeadingZeros_0f7a4_77 ?_
            refine aw_iret dJ6_numberOfLeadingZeros_0f7a4_78 rfl (Nat.zero_le _) (Nat.zero_le _) ?_
            exact ⟨congrArg (fun z => some (Value.int z)) (show sJ6_nlz x1 = 25 - (((Int32.toUInt32 (((Int32.toUInt32 (((Int32.toUInt32 x1) >>> ((Int32.toUInt32 4) &&& Int32.toUInt32 31)).toInt32)) >>> ((Int32.toUInt32 2) &&& Int32.toUInt32 31)).toInt32)) >>> ((Int32.toUInt32 1) &&& Int32.toUInt32 31)).toInt32) by unfold sJ6_nlz; rw [if_pos c1, if_pos c2, if_pos c3, if_neg c4, if_neg c6]).symm, rfl⟩
      · refine aw_iinc 23 [(1, .int 23), (0, .int x1)] dJ6_numberOfLeadingZeros_0f7a4_40 0 rfl (by decide) (Nat.le_of_ble_eq_true rfl) rfl ?_
        refine aw_iload_n dJ6_numberOfLeadingZeros_0f7a4_43 1 rfl ?_
        refine aw_bipush (v := 8) dJ6_numberOfLeadingZeros_0f7a4_44 (by decide) ?_
        refine aw_iushr dJ6_numberOfLeadingZeros_0f7a4_46 ?_
        refine aw_istore_n [(0, .int (((Int32.toUInt32 x1) >>> ((Int32.toUInt32 8) &&& Int32.toUInt32 31)).toInt32)), (1, .int 23)] dJ6_numberOfLeadingZeros_0f7a4_47 (Nat.le_of_ble_eq_true rfl) rfl ?_
        refine aw_iload_n dJ6_numberOfLeadingZeros_0f7a4_48 0 rfl ?_
        refine aw_bipush (v := 16) dJ6_numberOfLeadingZeros_0f7a4_49 (by decide) ?_
        refine aw_icmp_lt 61 dJ6_numberOfLeadingZeros_0f7a4_51 (by decide) (fun c7 => ?_) (fun c7 => ?_)
        · refine aw_iload_n dJ6_numberOfLeadingZeros_0f7a4_61 0 rfl ?_
          refine aw_iconst (v := 4) dJ6_numberOfLeadingZeros_0f7a4_62 (by decide) ?_
          refine aw_icmp_lt 73 dJ6_numberOfLeadingZeros_0f7a4_63 (by decide) (fun c8 => ?_) (fun c8 => ?_)
          · refine aw_iload_n dJ6_numberOfLeadingZeros_0f7a4_73 1 rfl ?_
            refine aw_iload_n dJ6_numberOfLeadingZeros_0f7a4_74 0 rfl ?_
            refine aw_iconst (v := 1) dJ6_numberOfLeadingZeros_0f7a4_75 (by decide) ?_
            refine aw_iushr dJ6_numberOfLeadingZeros_0f7a4_76 ?_
            refine aw_isub dJ6_numberOfLeadingZeros_0f7a4_77 ?_
            refine aw_iret dJ6_numberOfLeadingZeros_0f7a4_78 rfl (Nat.zero_le _) (Nat.zero_le _) ?_
            exact ⟨congrArg (fun z => some (Value.int z)) (show sJ6_nlz x1 = 23 - (((Int32.toUInt32 (((Int32.toUInt32 x1) >>> ((Int32.toUInt32 8) &&& Int32.toUInt32 31)).toInt32)) >>> ((Int32.toUInt32 1) &&& Int32.toUInt32 31)).toInt32) by unfold sJ6_nlz; rw [if_pos c1, if_pos c2, if_neg c3, if_pos c7, if_pos c8]).symm, rfl⟩
          · refine aw_iinc 21 [(1, .int 21), (0, .int (((Int32.toUInt32 x1) >>> ((Int32.toUInt32 8) &&& Int32.toUInt32 31)).toInt32))] dJ6_numberOfLeadingZeros_0f7a4_66 1 rfl (by decide) (Nat.le_of_ble_eq_true rfl) rfl ?_
            refine aw_iload_n dJ6_numberOfLeadingZeros_0f7a4_69 1 rfl ?_
            refine aw_iconst (v := 2) dJ6_numberOfLeadingZeros_0f7a4_70 (by decide) ?_
            refine aw_iushr dJ6_numberOfLeadingZeros_0f7a4_71 ?_
            refine aw_istore_n [(0, .int (((Int32.toUInt32 (((Int32.toUInt32 x1) >>> ((Int32.toUInt32 8) &&& Int32.toUInt32 31)).toInt32)) >>> ((Int32.toUInt32 2) &&& Int32.toUInt32 31)).toInt32)), (1, .int 21)] dJ6_numberOfLeadingZeros_0f7a4_72 (Nat.le_of_ble_eq_true rfl) rfl ?_
            refine aw_iload_n dJ6_numberOfLeadingZeros_0f7a4_73 1 rfl ?_
            refine aw_iload_n dJ6_numberOfLeadingZeros_0f7a4_74 0 rfl ?_
            refine aw_iconst (v := 1) dJ6_numberOfLeadingZeros_0f7a4_75 (by decide) ?_
            refine aw_iushr dJ6_numberOfLeadingZeros_0f7a4_76 ?_
            refine aw_isub dJ6_numberOfLeadingZeros_0f7a4_77 ?_
            refine aw_iret dJ6_numberOfLeadingZeros_0f7a4_78 rfl (Nat.zero_le _) (Nat.zero_le _) ?_
            exact ⟨congrArg (fun z => some (Value.int z)) (show sJ6_nlz x1 = 21 - (((Int32.toUInt32 (((Int32.toUInt32 (((Int32.toUInt32 x1) >>> ((Int32.toUInt32 8) &&& Int32.toUInt32 31)).toInt32)) >>> ((Int32.toUInt32 2) &&& Int32.toUInt32 31)).toInt32)) >>> ((Int32.toUInt32 1) &&& Int32.toUInt32 31)).toInt32) by unfold sJ6_nlz; rw [if_pos c1, if_pos c2, if_neg c3, if_pos c7, if_neg c8]).symm, rfl⟩
        · refine aw_iinc 19 [(1, .int 19), (0, .int (((Int32.toUInt32 x1) >>> ((Int32.toUInt32 8) &&& Int32.toUInt32 31)).toInt32))] dJ6_numberOfLeadingZeros_0f7a4_54 1 rfl (by decide) (Nat.le_of_ble_eq_true rfl) rfl ?_
          refine aw_iload_n dJ6_numberOfLeadingZeros_0f7a4_57 1 rfl ?_
          refine aw_iconst (v := 4) dJ6_numberOfLeadingZeros_0f7a4_58 (by decide) ?_
          refine aw_iushr dJ6_numberOfLeadingZeros_0f7a4_59 ?_
          refine aw_istore_n [(0, .int (((Int32.toUInt32 (((Int32.toUInt32 x1) >>> ((Int32.toUInt32 8) &&& Int32.toUInt32 31)).toInt32)) >>> ((Int32.toUInt32 4) &&& Int32.toUInt32 31)).toInt32)), (1, .int 19)] dJ6_numberOfLeadingZeros_0f7a4_60 (Nat.le_of_ble_eq_true rfl) rfl ?_
          refine aw_iload_n dJ6_numberOfLeadingZeros_0f7a4_61 0 rfl ?_
          refine aw_iconst (v := 4) dJ6_numberOfLeadingZeros_0f7a4_62 (by decide) ?_
          refine aw_icmp_lt 73 dJ6_numberOfLeadingZeros_0f7a4_63 (by decide) (fun c9 => ?_) (fun c9 => ?_)
          · refine aw_iload_n dJ6_numberOfLeadingZeros_0f7a4_73 1 rfl ?_
            refine aw_iload_n dJ6_numberOfLeadingZeros_0f7a4_74 0 rfl ?_
            refine aw_iconst (v := 1) dJ6_numberOfLeadingZeros_0f7a4_75 (by decide) ?_
            refine aw_iushr dJ6_numberOfLeadingZeros_0f7a4_76 ?_
            refine aw_isub dJ6_numberOfLeadingZeros_0f7a4_77 ?_
            refine aw_iret dJ6_numberOfLeadingZeros_0f7a4_78 rfl (Nat.zero_le _) (Nat.zero_le _) ?_
            exact ⟨congrArg (fun z => some (Value.int z)) (show sJ6_nlz x1 = 19 - (((Int32.toUInt32 (((Int32.toUInt32 (((Int32.toUInt32 x1) >>> ((Int32.toUInt32 8) &&& Int32.toUInt32 31)).toInt32)) >>> ((Int32.toUInt32 4) &&& Int32.toUInt32 31)).toInt32)) >>> ((Int32.toUInt32 1) &&& Int32.toUInt32 31)).toInt32) by unfold sJ6_nlz; rw [if_pos c1, if_pos c2, if_neg c3, if_neg c7, if_pos c9]).symm, rfl⟩
          · refine aw_iinc 17 [(1, .int 17), (0, .int (((Int32.toUInt32 (((Int32.toUInt32 x1) >>> ((Int32.toUInt32 8) &&& Int32.toUInt32 31)).toInt32)) >>> ((Int32.toUInt32 4) &&& Int32.toUInt32 31)).toInt32))] dJ6_numberOfLeadingZeros_0f7a4_66 1 rfl (by decide) (Nat.le_of_ble_eq_true rfl) rfl ?_
            refine aw_iload_n dJ6_numberOfLeadingZeros_0f7a4_69 1 rfl ?_
            refine aw_iconst (v := 2) dJ6_numberOfLeadingZeros_0f7a4_70 (by decide) ?_
            refine aw_iushr dJ6_numberOfLeadingZeros_0f7a4_71 ?_
            refine aw_istore_n [(0, .int (((Int32.toUInt32 (((Int32.toUInt32 (((Int32.toUInt32 x1) >>> ((Int32.toUInt32 8) &&& Int32.toUInt32 31)).toInt32)) >>> ((Int32.toUInt32 4) &&& Int32.toUInt32 31)).toInt32)) >>> ((Int32.toUInt32 2) &&& Int32.toUInt32 31)).toInt32)), (1, .int 17)] dJ6_numberOfLeadingZeros_0f7a4_72 (Nat.le_of_ble_eq_true rfl) rfl ?_
            refine aw_iload_n dJ6_numberOfLeadingZeros_0f7a4_73 1 rfl ?_
            refine aw_iload_n dJ6_numberOfLeadingZeros_0f7a4_74 0 rfl ?_
            refine aw_iconst (v := 1) dJ6_numberOfLeadingZeros_0f7a4_75 (by decide) ?_
            refine aw_iushr dJ6_numberOfLeadingZeros_0f7a4_76 ?_
            refine aw_isub dJ6_numberOfLeadingZeros_0f7a4_77 ?_
            refine aw_iret dJ6_numberOfLeadingZeros_0f7a4_78 rfl (Nat.zero_le _) (Nat.zero_le _) ?_
            exact ⟨congrArg (fun z => some (Value.int z)) (show sJ6_nlz x1 = 17 - (((Int32.toUInt32 (((Int32.toUInt32 (((Int32.toUInt32 (((Int32.toUInt32 x1) >>> ((Int32.toUInt32 8) &&& Int32.toUInt32 31)).toInt32)) >>> ((Int32.toUInt32 4) &&& Int32.toUInt32 31)).toInt32)) >>> ((Int32.toUInt32 2) &&& Int32.toUInt32 31)).toInt32)) >>> ((Int32.toUInt32 1) &&& Int32.toUInt32 31)).toInt32) by unfold sJ6_nlz; rw [if_pos c1, if_pos c2, if_neg c3, if_neg c7, if_neg c9]).symm, rfl⟩
    · refine aw_iinc 15 [(1, .int 15), (0, .int x1)] dJ6_numberOfLeadingZeros_0f7a4_25 0 rfl (by decide) (Nat.le_of_ble_eq_true rfl) rfl ?_
      refine aw_iload_n dJ6_numberOfLeadingZeros_0f7a4_28 1 rfl ?_
      refine aw_bipush (v := 16) dJ6_numberOfLeadingZeros_0f7a4_29 (by decide) ?_
      refine aw_iushr dJ6_numberOfLeadingZeros_0f7a4_31 ?_
      refine aw_istore_n [(0, .int (((Int32.toUInt32 x1) >>> ((Int32.toUInt32 16) &&& Int32.toUInt32 31)).toInt32)), (1, .int 15)] dJ6_numberOfLeadingZeros_0f7a4_32 (Nat.le_of_ble_eq_true rfl) rfl ?_
      refine aw_iload_n dJ6_numberOfLeadingZeros_0f7a4_33 0 rfl ?_
      refine aw_sipush (v := 256) dJ6_numberOfLeadingZeros_0f7a4_34 (by decide) ?_
      refine aw_icmp_lt 48 dJ6_numberOfLeadingZeros_0f7a4_37 (by decide) (fun c10 => ?_) (fun c10 => ?_)
      · refine aw_iload_n dJ6_numberOfLeadingZeros_0f7a4_48 0 rfl ?_
        refine aw_bipush (v := 16) dJ6_numberOfLeadingZeros_0f7a4_49 (by decide) ?_
        refine aw_icmp_lt 61 dJ6_numberOfLeadingZeros_0f7a4_51 (by decide) (fun c11 => ?_) (fun c11 => ?_)
        · refine aw_iload_n dJ6_numberOfLeadingZeros_0f7a4_61 0 rfl ?_
          refine aw_iconst (v := 4) dJ6_numberOfLeadingZeros_0f7a4_62 (by decide) ?_
          refine aw_icmp_lt 73 dJ6_numberOfLeadingZeros_0f7a4_63 (by decide) (fun c12 => ?_) (fun c12 => ?_)
          · refine aw_iload_n dJ6_numberOfLeadingZeros_0f7a4_73 1 rfl ?_
            refine aw_iload_n dJ6_numberOfLeadingZeros_0f7a4_74 0 rfl ?_
            refine aw_iconst (v := 1) dJ6_numberOfLeadingZeros_0f7a4_75 (by decide) ?_
            refine aw_iushr dJ6_numberOfLeadingZeros_0f7a4_76 ?_
            refine aw_isub dJ6_numberOfLeadingZeros_0f7a4_77 ?_
            refine aw_iret dJ6_numberOfLeadingZeros_0f7a4_78 rfl (Nat.zero_le _) (Nat.zero_le _) ?_
            exact ⟨congrArg (fun z => some (Value.int z)) (show sJ6_nlz x1 = 15 - (((Int32.toUInt32 (((Int32.toUInt32 x1) >>> ((Int32.toUInt32 16) &&& Int32.toUInt32 31)).toInt32)) >>> ((Int32.toUInt32 1) &&& Int32.toUInt32 31)).toInt32) by unfold sJ6_nlz; rw [if_pos c1, if_neg c2, if_pos c10, if_pos c11, if_pos c12]).symm, rfl⟩
          · refine aw_iinc 13 [(1, .int 13), (0, .int (((Int32.toUInt32 x1) >>> ((Int32.toUInt32 16) &&& Int32.toUInt32 31)).toInt32))] dJ6_numberOfLeadingZeros_0f7a4_66 1 rfl (by decide) (Nat.le_of_ble_eq_true rfl) rfl ?_
            refine aw_iload_n dJ6_numberOfLeadingZeros_0f7a4_69 1 rfl ?_
            refine aw_iconst (v := 2) dJ6_numberOfLeadingZeros_0f7a4_70 (by decide) ?_
            refine aw_iushr dJ6_numberOfLeadingZeros_0f7a4_71 ?_
            refine aw_istore_n [(0, .int (((Int32.toUInt32 (((Int32.toUInt32 x1) >>> ((Int32.toUInt32 16) &&& Int32.toUInt32 31)).toInt32)) >>> ((Int32.toUInt32 2) &&& Int32.toUInt32 31)).toInt32)), (1, .int 13)] dJ6_numberOfLeadingZeros_0f7a4_72 (Nat.le_of_ble_eq_true rfl) rfl ?_
            refine aw_iload_n dJ6_numberOfLeadingZeros_0f7a4_73 1 rfl ?_
            refine aw_iload_n dJ6_numberOfLeadingZeros_0f7a4_74 0 rfl ?_
            refine aw_iconst (v := 1) dJ6_numberOfLeadingZeros_0f7a4_75 (by decide) ?_
            refine aw_iushr dJ6_numberOfLeadingZeros_0f7a4_76 ?_
            refine aw_isub dJ6_numberOfLeadingZeros_0f7a4_77 ?_
            refine aw_iret dJ6_numberOfLeadingZeros_0f7a4_78 rfl (Nat.zero_le _) (Nat.zero_le _) ?_
            exact ⟨congrArg (fun z => some (Value.int z)) (show sJ6_nlz x1 = 13 - (((Int32.toUInt32 (((Int32.toUInt32 (((Int32.toUInt32 x1) >>> ((Int32.toUInt32 16) &&& Int32.toUInt32 31)).toInt32)) >>> ((Int32.toUInt32 2) &&& Int32.toUInt32 31)).toInt32)) >>> ((Int32.toUInt32 1) &&& Int32.toUInt32 31)).toInt32) by unfold sJ6_nlz; rw [if_pos c1, if_neg c2, if_pos c10, if_pos c11, if_neg c12]).symm, rfl⟩
        · refine aw_iinc 11 [(1, .int 11), (0, .int (((Int32.toUInt32 x1) >>> ((Int32.toUInt32 16) &&& Int32.toUInt32 31)).toInt32))] dJ6_numberOfLeadingZeros_0f7a4_54 1 rfl (by decide) (Nat.le_of_ble_eq_true rfl) rfl ?_
          refine aw_iload_n dJ6_numberOfLeadingZeros_0f7a4_57 1 rfl ?_
          refine aw_iconst (v := 4) dJ6_numberOfLeadingZeros_0f7a4_58 (by decide) ?_
          refine aw_iushr dJ6_numberOfLeadingZeros_0f7a4_59 ?_
          refine aw_istore_n [(0, .int (((Int32.toUInt32 (((Int32.toUInt32 x1) >>> ((Int32.toUInt32 16) &&& Int32.toUInt32 31)).toInt32)) >>> ((Int32.toUInt32 4) &&& Int32.toUInt32 31)).toInt32)), (1, .int 11)] dJ6_numberOfLeadingZeros_0f7a4_60 (Nat.le_of_ble_eq_true rfl) rfl ?_
          refine aw_iload_n dJ6_numberOfLeadingZeros_0f7a4_61 0 rfl ?_
          refine aw_iconst (v := 4) dJ6_numberOfLeadingZeros_0f7a4_62 (by decide) ?_
          refine aw_icmp_lt 73 dJ6_numberOfLeadingZeros_0f7a4_63 (by decide) (fun c13 => ?_) (fun c13 => ?_)
          · refine aw_iload_n dJ6_numberOfLeadingZeros_0f7a4_73 1 rfl ?_
            refine aw_iload_n dJ6_numberOfLeadingZeros_0f7a4_74 0 rfl ?_
            refine aw_iconst (v := 1) dJ6_numberOfLeadingZeros_0f7a4_75 (by decide) ?_
            refine aw_iushr dJ6_numberOfLeadingZeros_0f7a4_76 ?_
            refine aw_isub dJ6_numberOfLeadingZeros_0f7a4_77 ?_
            refine aw_iret dJ6_numberOfLeadingZeros_0f7a4_78 rfl (Nat.zero_le _) (Nat.zero_le _) ?_
            exact ⟨congrArg (fun z => some (Value.int z)) (show sJ6_nlz x1 = 11 - (((Int32.toUInt32 (((Int32.toUInt32 (((Int32.toUInt32 x1) >>> ((Int32.toUInt32 16) &&& Int32.toUInt32 31)).toInt32)) >>> ((Int32.toUInt32 4) &&& Int32.toUInt32 31)).toInt32)) >>> ((Int32.toUInt32 1) &&& Int32.toUInt32 31)).toInt32) by unfold sJ6_nlz; rw [if_pos c1, if_neg c2, if_pos c10, if_neg c11, if_pos c13]).symm, rfl⟩
          · refine aw_iinc 9 [(1, .int 9), (0, .int (((Int32.toUInt32 (((Int32.toUInt32 x1) >>> ((Int32.toUInt32 16) &&& Int32.toUInt32 31)).toInt32)) >>> ((Int32.toUInt32 4) &&& Int32.toUInt32 31)).toInt32))] dJ6_numberOfLeadingZeros_0f7a4_66 1 rfl (by decide) (Nat.le_of_ble_eq_true rfl) rfl ?_
            refine aw_iload_n dJ6_numberOfLeadingZeros_0f7a4_69 1 rfl ?_
            refine aw_iconst (v := 2) dJ6_numberOfLeadingZeros_0f7a4_70 (by decide) ?_
            refine aw_iushr dJ6_numberOfLeadingZeros_0f7a4_71 ?_
            refine aw_istore_n [(0, .int (((Int32.toUInt32 (((Int32.toUInt32 (((Int32.toUInt32 x1) >>> ((Int32.toUInt32 16) &&& Int32.toUInt32 31)).toInt32)) >>> ((Int32.toUInt32 4) &&& Int32.toUInt32 31)).toInt32)) >>> ((Int32.toUInt32 2) &&& Int32.toUInt32 31)).toInt32)), (1, .int 9)] dJ6_numberOfLeadingZeros_0f7a4_72 (Nat.le_of_ble_eq_true rfl) rfl ?_
            refine aw_iload_n dJ6_numberOfLeadingZeros_0f7a4_73 1 rfl ?_
            refine aw_iload_n dJ6_numberOfLeadingZeros_0f7a4_74 0 rfl ?_
            refine aw_iconst (v := 1) dJ6_numberOfLeadingZeros_0f7a4_75 (by decide) ?_
            refine aw_iushr dJ6_numberOfLeadingZeros_0f7a4_76 ?_
            refine aw_isub dJ6_numberOfLeadingZeros_0f7a4_77 ?_
            refine aw_iret dJ6_numberOfLeadingZeros_0f7a4_78 rfl (Nat.zero_le _) (Nat.zero_le _) ?_
            exact ⟨congrArg (fun z => some (Value.int z)) (show sJ6_nlz x1 = 9 - (((Int32.toUInt32 (((Int32.toUInt32 (((Int32.toUInt32 (((Int32.toUInt32 x1) >>> ((Int32.toUInt32 16) &&& Int32.toUInt32 31)).toInt32)) >>> ((Int32.toUInt32 4) &&& Int32.toUInt32 31)).toInt32)) >>> ((Int32.toUInt32 2) &&& Int32.toUInt32 31)).toInt32)) >>> ((Int32.toUInt32 1) &&& Int32.toUInt32 31)).toInt32) by unfold sJ6_nlz; rw [if_pos c1, if_neg c2, if_pos c10, if_neg c11, if_neg c13]).symm, rfl⟩
      · refine aw_iinc 7 [(1, .int 7), (0, .int (((Int32.toUInt32 x1) >>> ((Int32.toUInt32 16) &&& Int32.toUInt32 31)).toInt32))] dJ6_numberOfLeadingZeros_0f7a4_40 1 rfl (by decide) (Nat.le_of_ble_eq_true rfl) rfl ?_
        refine aw_iload_n dJ6_numberOfLeadingZeros_0f7a4_43 1 rfl ?_
        refine aw_bipush (v := 8) dJ6_numberOfLeadingZeros_0f7a4_44 (by decide) ?_
        refine aw_iushr dJ6_numberOfLeadingZeros_0f7a4_46 ?_
        refine aw_istore_n [(0, .int (((Int32.toUInt32 (((Int32.toUInt32 x1) >>> ((Int32.toUInt32 16) &&& Int32.toUInt32 31)).toInt32)) >>> ((Int32.toUInt32 8) &&& Int32.toUInt32 31)).toInt32)), (1, .int 7)] dJ6_numberOfLeadingZeros_0f7a4_47 (Nat.le_of_ble_eq_true rfl) rfl ?_
        refine aw_iload_n dJ6_numberOfLeadingZeros_0f7a4_48 0 rfl ?_
        refine aw_bipush (v := 16) dJ6_numberOfLeadingZeros_0f7a4_49 (by decide) ?_
        refine aw_icmp_lt 61 dJ6_numberOfLeadingZeros_0f7a4_51 (by decide) (fun c14 => ?_) (fun c14 => ?_)
        · refine aw_iload_n dJ6_numberOfLeadingZeros_0f7a4_61 0 rfl ?_
          refine aw_iconst (v := 4) dJ6_numberOfLeadingZeros_0f7a4_62 (by decide) ?_
          refine aw_icmp_lt 73 dJ6_numberOfLeadingZeros_0f7a4_63 (by decide) (fun c15 => ?_) (fun c15 => ?_)
          · refine aw_iload_n dJ6_numberOfLeadingZeros_0f7a4_73 1 rfl ?_
            refine aw_iload_n dJ6_numberOfLeadingZeros_0f7a4_74 0 rfl ?_
            refine aw_iconst (v := 1) dJ6_numberOfLeadingZeros_0f7a4_75 (by decide) ?_
            refine aw_iushr dJ6_numberOfLeadingZeros_0f7a4_76 ?_
            refine aw_isub dJ6_numberOfLeadingZeros_0f7a4_77 ?_
            refine aw_iret dJ6_numberOfLeadingZeros_0f7a4_78 rfl (Nat.zero_le _) (Nat.zero_le _) ?_
            exact ⟨congrArg (fun z => some (Value.int z)) (show sJ6_nlz x1 = 7 - (((Int32.toUInt32 (((Int32.toUInt32 (((Int32.toUInt32 x1) >>> ((Int32.toUInt32 16) &&& Int32.toUInt32 31)).toInt32)) >>> ((Int32.toUInt32 8) &&& Int32.toUInt32 31)).toInt32)) >>> ((Int32.toUInt32 1) &&& Int32.toUInt32 31)).toInt32) by unfold sJ6_nlz; rw [if_pos c1, if_neg c2, if_neg c10, if_pos c14, if_pos c15]).symm, rfl⟩
          · refine aw_iinc 5 [(1, .int 5), (0, .int (((Int32.toUInt32 (((Int32.toUInt32 x1) >>> ((Int32.toUInt32 16) &&& Int32.toUInt32 31)).toInt32)) >>> ((Int32.toUInt32 8) &&& Int32.toUInt32 31)).toInt32))] dJ6_numberOfLeadingZeros_0f7a4_66 1 rfl (by decide) (Nat.le_of_ble_eq_true rfl) rfl ?_
            refine aw_iload_n dJ6_numberOfLeadingZeros_0f7a4_69 1 rfl ?_
            refine aw_iconst (v := 2) dJ6_numberOfLeadingZeros_0f7a4_70 (by decide) ?_
            refine aw_iushr dJ6_numberOfLeadingZeros_0f7a4_71 ?_
            refine aw_istore_n [(0, .int (((Int32.toUInt32 (((Int32.toUInt32 (((Int32.toUInt32 x1) >>> ((Int32.toUInt32 16) &&& Int32.toUInt32 31)).toInt32)) >>> ((Int32.toUInt32 8) &&& Int32.toUInt32 31)).toInt32)) >>> ((Int32.toUInt32 2) &&& Int32.toUInt32 31)).toInt32)), (1, .int 5)] dJ6_numberOfLeadingZeros_0f7a4_72 (Nat.le_of_ble_eq_true rfl) rfl ?_
            refine aw_iload_n dJ6_numberOfLeadingZeros_0f7a4_73 1 rfl ?_
            refine aw_iload_n dJ6_numberOfLeadingZeros_0f7a4_74 0 rfl ?_
            refine aw_iconst (v := 1) dJ6_numberOfLeadingZeros_0f7a4_75 (by decide) ?_
            refine aw_iushr dJ6_numberOfLeadingZeros_0f7a4_76 ?_
            refine aw_isub dJ6_numberOfLeadingZeros_0f7a4_77 ?_
            refine aw_iret dJ6_numberOfLeadingZeros_0f7a4_78 rfl (Nat.zero_le _) (Nat.zero_le _) ?_
            exact ⟨congrArg (fun z => some (Value.int z)) (show sJ6_nlz x1 = 5 - (((Int32.toUInt32 (((Int32.toUInt32 (((Int32.toUInt32 (((Int32.toUInt32 x1) >>> ((Int32.toUInt32 16) &&& Int32.toUInt32 31)).toInt32)) >>> ((Int32.toUInt32 8) &&& Int32.toUInt32 31)).toInt32)) >>> ((Int32.toUInt32 2) &&& Int32.toUInt32 31)).toInt32)) >>> ((Int32.toUInt32 1) &&& Int32.toUInt32 31)).toInt32) by unfold sJ6_nlz; rw [if_pos c1, if_neg c2, if_neg c10, if_pos c14, if_neg c15]).symm, rfl⟩
        · refine aw_iinc 3 [(1, .int 3), (0, .int (((Int32.toUInt32 (((Int32.toUInt32 x1) >>> ((Int32.toUInt32 16) &&& Int32.toUInt32 31)).toInt32)) >>> ((Int32.toUInt32 8) &&& Int32.toUInt32 31)).toInt32))] dJ6_numberOfLeadingZeros_0f7a4_54 1 rfl (by decide) (Nat.le_of_ble_eq_true rfl) rfl ?_
          refine aw_iload_n dJ6_numberOfLeadingZeros_0f7a4_57 1 rfl ?_
          refine aw_iconst (v := 4) dJ6_numberOfLeadingZeros_0f7a4_58 (by decide) ?_
          refine aw_iushr dJ6_numberOfLeadingZeros_0f7a4_59 ?_
          refine aw_istore_n [(0, .int (((Int32.toUInt32 (((Int32.toUInt32 (((Int32.toUInt32 x1) >>> ((Int32.toUInt32 16) &&& Int32.toUInt32 31)).toInt32)) >>> ((Int32.toUInt32 8) &&& Int32.toUInt32 31)).toInt32)) >>> ((Int32.toUInt32 4) &&& Int32.toUInt32 31)).toInt32)), (1, .int 3)] dJ6_numberOfLeadingZeros_0f7a4_60 (Nat.le_of_ble_eq_true rfl) rfl ?_
          refine aw_iload_n dJ6_numberOfLeadingZeros_0f7a4_61 0 rfl ?_
          refine aw_iconst (v := 4) dJ6_numberOfLeadingZeros_0f7a4_62 (by decide) ?_
          refine aw_icmp_lt 73 dJ6_numberOfLeadingZeros_0f7a4_63 (by decide) (fun c16 => ?_) (fun c16 => ?_)
          · refine aw_iload_n dJ6_numberOfLeadingZeros_0f7a4_73 1 rfl ?_
            refine aw_iload_n dJ6_numberOfLeadingZeros_0f7a4_74 0 rfl ?_
            refine aw_iconst (v := 1) dJ6_numberOfLeadingZeros_0f7a4_75 (by decide) ?_
            refine aw_iushr dJ6_numberOfLeadingZeros_0f7a4_76 ?_
            refine aw_isub dJ6_numberOfLeadingZeros_0f7a4_77 ?_
            refine aw_iret dJ6_numberOfLeadingZeros_0f7a4_78 rfl (Nat.zero_le _) (Nat.zero_le _) ?_
            exact ⟨congrArg (fun z => some (Value.int z)) (show sJ6_nlz x1 = 3 - (((Int32.toUInt32 (((Int32.toUInt32 (((Int32.toUInt32 (((Int32.toUInt32 x1) >>> ((Int32.toUInt32 16) &&& Int32.toUInt32 31)).toInt32)) >>> ((Int32.toUInt32 8) &&& Int32.toUInt32 31)).toInt32)) >>> ((Int32.toUInt32 4) &&& Int32.toUInt32 31)).toInt32)) >>> ((Int32.toUInt32 1) &&& Int32.toUInt32 31)).toInt32) by unfold sJ6_nlz; rw [if_pos c1, if_neg c2, if_neg c10, if_neg c14, if_pos c16]).symm, rfl⟩
          · refine aw_iinc 1 [(1, .int 1), (0, .int (((Int32.toUInt32 (((Int32.toUInt32 (((Int32.toUInt32 x1) >>> ((Int32.toUInt32 16) &&& Int32.toUInt32 31)).toInt32)) >>> ((Int32.toUInt32 8) &&& Int32.toUInt32 31)).toInt32)) >>> ((Int32.toUInt32 4) &&& Int32.toUInt32 31)).toInt32))] dJ6_numberOfLeadingZeros_0f7a4_66 1 rfl (by decide) (Nat.le_of_ble_eq_true rfl) rfl ?_
            refine aw_iload_n dJ6_numberOfLeadingZeros_0f7a4_69 1 rfl ?_
            refine aw_iconst (v := 2) dJ6_numberOfLeadingZeros_0f7a4_70 (by decide) ?_
            refine aw_iushr dJ6_numberOfLeadingZeros_0f7a4_71 ?_
            refine aw_istore_n [(0, .int (((Int32.toUInt32 (((Int32.toUInt32 (((Int32.toUInt32 (((Int32.toUInt32 x1) >>> ((Int32.toUInt32 16) &&& Int32.toUInt32 31)).toInt32)) >>> ((Int32.toUInt32 8) &&& Int32.toUInt32 31)).toInt32)) >>> ((Int32.toUInt32 4) &&& Int32.toUInt32 31)).toInt32)) >>> ((Int32.toUInt32 2) &&& Int32.toUInt32 31)).toInt32)), (1, .int 1)] dJ6_numberOfLeadingZeros_0f7a4_72 (Nat.le_of_ble_eq_true rfl) rfl ?_
            refine aw_iload_n dJ6_numberOfLeadingZeros_0f7a4_73 1 rfl ?_
            refine aw_iload_n dJ6_numberOfLeadingZeros_0f7a4_74 0 rfl ?_
            refine aw_iconst (v := 1) dJ6_numberOfLeadingZeros_0f7a4_75 (by decide) ?_
            refine aw_iushr dJ6_numberOfLeadingZeros_0f7a4_76 ?_
            refine aw_isub dJ6_numberOfLeadingZeros_0f7a4_77 ?_
            refine aw_iret dJ6_numberOfLeadingZeros_0f7a4_78 rfl (Nat.zero_le _) (Nat.zero_le _) ?_
            exact ⟨congrArg (fun z => some (Value.int z)) (show sJ6_nlz x1 = 1 - (((Int32.toUInt32 (((Int32.toUInt32 (((Int32.toUInt32 (((Int32.toUInt32 (((Int32.toUInt32 x1) >>> ((Int32.toUInt32 16) &&& Int32.toUInt32 31)).toInt32)) >>> ((Int32.toUInt32 8) &&& Int32.toUInt32 31)).toInt32)) >>> ((Int32.toUInt32 4) &&& Int32.toUInt32 31)).toInt32)) >>> ((Int32.toUInt32 2) &&& Int32.toUInt32 31)).toInt32)) >>> ((Int32.toUInt32 1) &&& Int32.toUInt32 31)).toInt32) by unfold sJ6_nlz; rw [if_pos c1, if_neg c2, if_neg c10, if_neg c14, if_neg c16]).symm, rfl⟩
  · refine aw_iload_n dJ6_numberOfLeadingZeros_0f7a4_4 0 rfl ?_
    refine aw_if_ne 13 dJ6_numberOfLeadingZeros_0f7a4_5 (by decide) (fun c17 => ?_) (fun c17 => ?_)
    · refine aw_iconst (v := 0) dJ6_numberOfLeadingZeros_0f7a4_13 (by decide) ?_
      refine aw_iret dJ6_numberOfLeadingZeros_0f7a4_14 rfl (Nat.zero_le _) (Nat.zero_le _) ?_
      exact ⟨congrArg (fun z => some (Value.int z)) (show sJ6_nlz x1 = 0 by unfold sJ6_nlz; rw [if_neg c1, if_neg c17]).symm, rfl⟩
    · refine aw_bipush (v := 32) dJ6_numberOfLeadingZeros_0f7a4_8 (by decide) ?_
      refine aw_goto 14 dJ6_numberOfLeadingZeros_0f7a4_10 (by decide) ?_
      refine aw_iret dJ6_numberOfLeadingZeros_0f7a4_14 rfl (Nat.zero_le _) (Nat.zero_le _) ?_
      exact ⟨congrArg (fun z => some (Value.int z)) (show sJ6_nlz x1 = 32 by unfold sJ6_nlz; rw [if_neg c1, if_pos c17]).symm, rfl⟩
def sJ6_ntz (x1 : Int32) : Int32 := (if 0 < ((x1 ^^^ (-1)) &&& (x1 - 1)) then (if ((x1 ^^^ (-1)) &&& (x1 - 1)) ≤ 65536 then (if ((x1 ^^^ (-1)) &&& (x1 - 1)) ≤ 256 then (if ((x1 ^^^ (-1)) &&& (x1 - 1)) ≤ 16 then (if ((x1 ^^^ (-1)) &&& (x1 - 1)) ≤ 4 then 1 + (((Int32.toUInt32 ((x1 ^^^ (-1)) &&& (x1 - 1))) >>> ((Int32.toUInt32 1) &&& Int32.toUInt32 31)).toInt32) else 3 + (((Int32.toUInt32 (((Int32.toUInt32 ((x1 ^^^ (-1)) &&& (x1 - 1))) >>> ((Int32.toUInt32 2) &&& Int32.toUInt32 31)).toInt32)) >>> ((Int32.toUInt32 1) &&& Int32.toUInt32 31)).toInt32)) else (if (((Int32.toUInt32 ((x1 ^^^ (-1)) &&& (x1 - 1))) >>> ((Int32.toUInt32 4) &&& Int32.toUInt32 31)).toInt32) ≤ 4 then 5 + (((Int32.toUInt32 (((Int32.toUInt32 ((x1 ^^^ (-1)) &&& (x1 - 1))) >>> ((Int32.toUInt32 4) &&& Int32.toUInt32 31)).toInt32)) >>> ((Int32.toUInt32 1) &&& Int32.toUInt32 31)).toInt32) else 7 + (((Int32.toUInt32 (((Int32.toUInt32 (((Int32.toUInt32 ((x1 ^^^ (-1)) &&& (x1 - 1))) >>> ((Int32.toUInt32 4) &&& Int32.toUInt32 31)).toInt32)) >>> ((Int32.toUInt32 2) &&& Int32.toUInt32 31)).toInt32)) >>> ((Int32.toUInt32 1) &&& Int32.toUInt32 31)).toInt32))) else (if (((Int32.toUInt32 ((x1 ^^^ (-1)) &&& (x1 - 1))) >>> ((Int32.toUInt32 8) &&& Int32.toUInt32 31)).toInt32) ≤ 16 then (if (((Int32.toUInt32 ((x1 ^^^ (-1)) &&& (x1 - 1))) >>> ((Int32.toUInt32 8) &&& Int32.toUInt32 31)).toInt32) ≤ 4 then 9 + (((Int32.toUInt32 (((Int32.toUInt32 ((x1 ^^^ (-1)) &&& (x1 - 1))) >>> ((Int32.toUInt32 8) &&& Int32.toUInt32 31)).toInt32)) >>> ((Int32.toUInt32 1) &&& Int32.toUInt32 31)).toInt32) else 11 + (((Int32.toUInt32 (((Int32.toUInt32 (((Int32.toUInt32 ((x1 ^^^ (-1)) &&& (x1 - 1))) >>> ((Int32.toUInt32 8) &&& Int32.toUInt32 31)).toInt32)) >>> ((Int32.toUInt32 2) &&& Int32.toUInt32 31)).toInt32)) >>> ((Int32.toUInt32 1) &&& Int32.toUInt32 31)).toInt32)) else (if (((Int32.toUInt32 (((Int32.toUInt32 ((x1 ^^^ (-1)) &&& (x1 - 1))) >>> ((Int32.toUInt32 8) &&& Int32.toUInt32 31)).toInt32)) >>> ((Int32.toUInt32 4) &&& Int32.toUInt32 31)).toInt32) ≤ 4 then 13 + (((Int32.toUInt32 (((Int32.toUInt32 (((Int32.toUInt32 ((x1 ^^^ (-1)) &&& (x1 - 1))) >>> ((Int32.toUInt32 8) &&& Int32.toUInt32 31)).toInt32)) >>> ((Int32.toUInt32 4) &&& Int32.toUInt32 31)).toInt32)) >>> ((Int32.toUInt32 1) &&& Int32.toUInt32 31)).toInt32) else 15 + (((Int32.toUInt32 (((Int32.toUInt32 (((Int32.toUInt32 (((Int32.toUInt32 ((x1 ^^^ (-1)) &&& (x1 - 1))) >>> ((Int32.toUInt32 8) &&& Int32.toUInt32 31)).toInt32)) >>> ((Int32.toUInt32 4) &&& Int32.toUInt32 31)).toInt32)) >>> ((Int32.toUInt32 2) &&& Int32.toUInt32 31)).toInt32)) >>> ((Int32.toUInt32 1) &&& Int32.toUInt32 31)).toInt32)))) else (if (((Int32.toUInt32 ((x1 ^^^ (-1)) &&& (x1 - 1))) >>> ((Int32.toUInt32 16) &&& Int32.toUInt32 31)).toInt32) ≤ 256 then (if (((Int32.toUInt32 ((x1 ^^^ (-1)) &&& (x1 - 1))) >>> ((Int32.toUInt32 16) &&& Int32.toUInt32 31)).toInt32) ≤ 16 then (if (((Int32.toUInt32 ((x1 ^^^ (-1)) &&& (x1 - 1))) >>> ((Int32.toUInt32 16) &&& Int32.toUInt32 31)).toInt32) ≤ 4 then 17 + (((Int32.toUInt32 (((Int32.toUInt32 ((x1 ^^^ (-1)) &&& (x1 - 1))) >>> ((Int32.toUInt32 16) &&& Int32.toUInt32 31)).toInt32)) >>> ((Int32.toUInt32 1) &&& Int32.toUInt32 31)).toInt32) else 19 + (((Int32.toUInt32 (((Int32.toUInt32 (((Int32.toUInt32 ((x1 ^^^ (-1)) &&& (x1 - 1))) >>> ((Int32.toUInt32 16) &&& Int32.toUInt32 31)).toInt32)) >>> ((Int32.toUInt32 2) &&& Int32.toUInt32 31)).toInt32)) >>> ((Int32.toUInt32 1) &&& Int32.toUInt32 31)).toInt32)) else (if (((Int32.toUInt32 (((Int32.toUInt32 ((x1 ^^^ (-1)) &&& (x1 - 1))) >>> ((Int32.toUInt32 16) &&& Int32.toUInt32 31)).toInt32)) >>> ((Int32.toUInt32 4) &&& Int32.toUInt32 31)).toInt32) ≤ 4 then 21 + (((Int32.toUInt32 (((Int32.toUInt32 (((Int32.toUInt32 ((x1 ^^^ (-1)) &&& (x1 - 1))) >>> ((Int32.toUInt32 16) &&& Int32.toUInt32 31)).toInt32)) >>> ((Int32.toUInt32 4) &&& Int32.toUInt32 31)).toInt32)) >>> ((Int32.toUInt32 1) &&& Int32.toUInt32 31)).toInt32) else 23 + (((Int32.toUInt32 (((Int32.toUInt32 (((Int32.toUInt32 (((Int32.toUInt32 ((x1 ^^^ (-1)) &&& (x1 - 1))) >>> ((Int32.toUInt32 16) &&& Int32.toUInt32 31)).toInt32)) >>> ((Int32.toUInt32 4) &&& Int32.toUInt32 31)).toInt32)) >>> ((Int32.toUInt32 2) &&& Int32.toUInt32 31)).toInt32)) >>> ((Int32.toUInt32 1) &&& Int32.toUInt32 31)).toInt32))) else (if (((Int32.toUInt32 (((Int32.toUInt32 ((x1 ^^^ (-1)) &&& (x1 - 1))) >>> ((Int32.toUInt32 16) &&& Int32.toUInt32 31)).toInt32)) >>> ((Int32.toUInt32 8) &&& Int32.toUInt32 31)).toInt32) ≤ 16 then (if (((Int32.toUInt32 (((Int32.toUInt32 ((x1 ^^^ (-1)) &&& (x1 - 1))) >>> ((Int32.toUInt32 16) &&& Int32.toUInt32 31)).toInt32)) >>> ((Int32.toUInt32 8) &&& Int32.toUInt32 31)).toInt32) ≤ 4 then 25 + (((Int32.toUInt32 (((Int32.toUInt32 (((Int32.toUInt32 ((x1 ^^^ (-1)) &&& (x1 - 1))) >>> ((Int32.toUInt32 16) &&& Int32.toUInt32 31)).toInt32)) >>> ((Int32.toUInt32 8) &&& Int32.toUInt32 31)).toInt32)) >>> ((Int32.toUInt32 1) &&& Int32.toUInt32 31)).toInt32) else 27 + (((Int32.toUInt32 (((Int32.toUInt32 (((Int32.toUInt32 (((Int32.toUInt32 ((x1 ^^^ (-1)) &&& (x1 - 1))) >>> ((Int32.toUInt32 16) &&& Int32.toUInt32 31)).toInt32)) >>> ((Int32.toUInt32 8) &&& Int32.toUInt32 31)).toInt32)) >>> ((Int32.toUInt32 2) &&& Int32.toUInt32 31)).toInt32)) >>> ((Int32.toUInt32 1) &&& Int32.toUInt32 31)).toInt32)) else (if (((Int32.toUInt32 (((Int32.toUInt32 (((Int32.toUInt32 ((x1 ^^^ (-1)) &&& (x1 - 1))) >>> ((Int32.toUInt32 16) &&& Int32.toUInt32 31)).toInt32)) >>> ((Int32.toUInt32 8) &&& Int32.toUInt32 31)).toInt32)) >>> ((Int32.toUInt32 4) &&& Int32.toUInt32 31)).toInt32) ≤ 4 then 29 + (((Int32.toUInt32 (((Int32.toUInt32 (((Int32.toUInt32 (((Int32.toUInt32 ((x1 ^^^ (-1)) &&& (x1 - 1))) >>> ((Int32.toUInt32 16) &&& Int32.toUInt32 31)).toInt32)) >>> ((Int32.toUInt32 8) &&& Int32.toUInt32 31)).toInt32)) >>> ((Int32.toUInt32 4) &&& Int32.toUInt32 31)).toInt32)) >>> ((Int32.toUInt32 1) &&& Int32.toUInt32 31)).toInt32) else 31 + (((Int32.toUInt32 (((Int32.toUInt32 (((Int32.toUInt32 (((Int32.toUInt32 (((Int32.toUInt32 ((x1 ^^^ (-1)) &&& (x1 - 1))) >>> ((Int32.toUInt32 16) &&& Int32.toUInt32 31)).toInt32)) >>> ((Int32.toUInt32 8) &&& Int32.toUInt32 31)).toInt32)) >>> ((Int32.toUInt32 4) &&& Int32.toUInt32 31)).toInt32)) >>> ((Int32.toUInt32 2) &&& Int32.toUInt32 31)).toInt32)) >>> ((Int32.toUInt32 1) &&& Int32.toUInt32 31)).toInt32))))) else ((x1 ^^^ (-1)) &&& (x1 - 1)) &&& 32)
theorem sp_J6_numberOfTrailingZeros_0f7a4 {d : Nat} (hd : 0 ≤ d) {M : xM} (x1 : Int32)  : Sp (fJ6_numberOfTrailingZeros_0f7a4 d) [.int x1] M (dt (some (.int (sJ6_ntz x1))) (M)) := by
  refine Sp.of pn_J6 (Nat.le_of_ble_eq_true rfl) (fun h => Bool.noConfusion h) ?_
  refine aw_iload_n dJ6_numberOfTrailingZeros_0f7a4_0 0 rfl ?_
  refine aw_iconst (v := -1) dJ6_numberOfTrailingZeros_0f7a4_1 (by decide) ?_
  refine aw_ixor dJ6_numberOfTrailingZeros_0f7a4_2 ?_
  refine aw_iload_n dJ6_numberOfTrailingZeros_0f7a4_3 0 rfl ?_
  refine aw_iconst (v := 1) dJ6_numberOfTrailingZeros_0f7a4_4 (by decide) ?_
  refine aw_isub dJ6_numberOfTrailingZeros_0f7a4_5 ?_
  refine aw_iand dJ6_numberOfTrailingZeros_0f7a4_6 ?_
  refine aw_istore_n [(0, .int ((x1 ^^^ (-1)) &&& (x1 - 1)))] dJ6_numberOfTrailingZeros_0f7a4_7 (Nat.le_of_ble_eq_true rfl) rfl ?_
  refine aw_iload_n dJ6_numberOfTrailingZeros_0f7a4_8 0 rfl ?_
  refine aw_if_gt 17 dJ6_numberOfTrailingZeros_0f7a4_9 (by decide) (fun c1 => ?_) (fun c1 => ?_)
  · refine aw_iconst (v := 1) dJ6_numberOfTrailingZeros_0f7a4_17 (by decide) ?_
    refine aw_istore_n [(1, .int 1), (0, .int ((x1 ^^^ (-1)) &&& (x1 - 1)))] dJ6_numberOfTrailingZeros_0f7a4_18 (Nat.le_of_ble_eq_true rfl) rfl ?_
    refine aw_iload_n dJ6_numberOfTrailingZeros_0f7a4_19 1 rfl ?_
    refine aw_ldcw dJ6_numberOfTrailingZeros_0f7a4_20 kc_J6_264 ?_
    refine aw_icmp_le 34 dJ6_numberOfTrailingZeros_0f7a4_23 (by decide) (fun c2 => ?_) (fun c2 => ?_)
    · refine aw_iload_n dJ6_numberOfTrailingZeros_0f7a4_34 1 rfl ?_
      refine aw_sipush (v := 256) dJ6_numberOfTrailingZeros_0f7a4_35 (by decide) ?_
      refine aw_icmp_le 49 dJ6_numberOfTrailingZeros_0f7a4_38 (by decide) (fun c3 => ?_) (fun c3 => ?_)
      · refine aw_iload_n dJ6_numberOfTrailingZeros_0f7a4_49 1 rfl ?_
        refine aw_bipush (v := 16) dJ6_numberOfTrailingZeros_0f7a4_50 (by decide) ?_
        refine aw_icmp_le 62 dJ6_numberOfTrailingZeros_0f7a4_52 (by decide) (fun c4 => ?_) (fun c4 => ?_)
        · refine aw_iload_n dJ6_numberOfTrailingZeros_0f7a4_62 1 rfl ?_
          refine aw_iconst (v := 4) dJ6_numberOfTrailingZeros_0f7a4_63 (by decide) ?_
          refine aw_icmp_le 74 dJ6_numberOfTrailingZeros_0f7a4_64 (by decide) (fun c5 => ?_) (fun c5 => ?_)
          · refine aw_iload_n dJ6_numberOfTrailingZeros_0f7a4_74 0 rfl ?_
            refine aw_iload_n dJ6_numberOfTrailingZeros_0f7a4_75 1 rfl ?_
            refine aw_iconst (v := 1) dJ6_numberOfTrailingZeros_0f7a4_76 (by decide) ?_
            refine aw_iushr dJ6_numberOfTrailingZeros_0f7a4_77 ?_
            refine aw_iadd dJ6_numberOfTrailingZeros_0f7a4_78 ?_
            refine aw_iret dJ6_numberOfTrailingZeros_0f7a4_79 rfl (Nat.zero_le _) (Nat.zero_le _) ?_
            exact ⟨congrArg (fun z => some (Value.int z)) (show sJ6_ntz x1 = 1 + (((Int32.toUInt32 ((x1 ^^^ (-1)) &&& (x1 - 1))) >>> ((Int32.toUInt32 1) &&& Int32.toUInt32 31)).toInt32) by unfold sJ6_ntz; rw [if_pos c1, if_pos c2, if_pos c3, if_pos c4, if_pos c5]).symm, rfl⟩
          · refine aw_iinc 3 [(1, .int 3), (0, .int ((x1 ^^^ (-1)) &&& (x1 - 1)))] dJ6_numberOfTrailingZeros_0f7a4_67 0 rfl (by decide) (Nat.le_of_ble_eq_true rfl) rfl ?_
            refine aw_iload_n dJ6_numberOfTrailingZeros_0f7a4_70 1 rfl ?_
            refine aw_iconst (v := 2) dJ6_numberOfTrailingZeros_0f7a4_71 (by decide) ?_
            refine aw_iushr dJ6_numberOfTrailingZeros_0f7a4_72 ?_
            refine aw_istore_n [(0, .int (((Int32.toUInt32 ((x1 ^^^ (-1)) &&& (x1 - 1))) >>> ((Int32.toUInt32 2) &&& Int32.toUInt32 31)).toInt32)), (1, .int 3)] dJ6_numberOfTrailingZeros_0f7a4_73 (Nat.le_of_ble_eq_true rfl) rfl ?_
            refine aw_iload_n dJ6_numberOfTrailingZeros_0f7a4_74 1 rfl ?_
            refine aw_iload_n dJ6_numberOfTrailingZeros_0f7a4_75 0 rfl ?_
            refine aw_iconst (v := 1) dJ6_numberOfTrailingZeros_0f7a4_76 (by decide) ?_
            refine aw_iushr dJ6_numberOfTrailingZeros_0f7a4_77 ?_
            refine aw_iadd dJ6_numberOfTrailingZeros_0f7a4_78 ?_
            refine aw_iret dJ6_numberOfTrailingZeros_0f7a4_79 rfl (Nat.zero_le _) (Nat.zero_le _) ?_
            exact ⟨congrArg (fun z => some (Value.int z)) (show sJ6_ntz x1 = 3 + (((Int32.toUInt32 (((Int32.toUInt32 ((x1 ^^^ (-1)) &&& (x1 - 1))) >>> ((Int32.toUInt32 2) &&& Int32.toUInt32 31)).toInt32)) >>> ((Int32.toUInt32 1) &&& Int32.toUInt32 31)).toInt32) by unfold sJ6_ntz; rw [if_pos c1, if_pos c2, if_pos c3, if_pos c4, if_neg c5]).symm, rfl⟩
        · refine aw_iinc 5 [(1, .int 5), (0, .int ((x1 ^^^ (-1)) &&& (x1 - 1)))] dJ6_numberOfTrailingZeros_0f7a4_55 0 rfl (by decide) (Nat.le_of_ble_eq_true rfl) rfl ?_
          refine aw_iload_n dJ6_numberOfTrailingZeros_0f7a4_58 1 rfl ?_
          refine aw_iconst (v := 4) dJ6_numberOfTrailingZeros_0f7a4_59 (by decide) ?_
          refine aw_iushr dJ6_numberOfTrailingZeros_0f7a4_60 ?_
          refine aw_istore_n [(0, .int (((Int32.toUInt32 ((x1 ^^^ (-1)) &&& (x1 - 1))) >>> ((Int32.toUInt32 4) &&& Int32.toUInt32 31)).toInt32)), (1, .int 5)] dJ6_numberOfTrailingZeros_0f7a4_61 (Nat.le_of_ble_eq_true rfl) rfl ?_
          refine aw_iload_n dJ6_numberOfTrailingZeros_0f7a4_62 0 rfl ?_
          refine aw_iconst (v := 4) dJ6_numberOfTrailingZeros_0f7a4_63 (by decide) ?_
          refine aw_icmp_le 74 dJ6_numberOfTrailingZeros_0f7a4_64 (by decide) (fun c6 => ?_) (fun c6 => ?_)
          · refine aw_iload_n dJ6_numberOfTrailingZeros_0f7a4_74 1 rfl ?_
            refine aw_iload_n dJ6_numberOfTrailingZeros_0f7a4_75 0 rfl ?_
            refine aw_iconst (v := 1) dJ6_numberOfTrailingZeros_0f7a4_76 (by decide) ?_
            refine aw_iushr dJ6_numberOfTrailingZeros_0f7a4_77 ?_
            refine aw_iadd dJ6_numberOfTrailingZeros_0f7a4_78 ?_
            refine aw_iret dJ6_numberOfTrailingZeros_0f7a4_79 rfl (Nat.zero_le _) (Nat.zero_le _) ?_
            exact ⟨congrArg (fun z => some (Value.int z)) (show sJ6_ntz x1 = 5 + (((Int32.toUInt32 (((Int32.toUInt32 ((x1 ^^^ (-1)) &&& (x1 - 1))) >>> ((Int32.toUInt32 4) &&& Int32.toUInt32 31)).toInt32)) >>> ((Int32.toUInt32 1) &&& Int32.toUInt32 31)).toInt32) by unfold sJ6_ntz; rw [if_pos c1, if_pos c2, if_pos c3, if_neg c4, if_pos c6]).symm, rfl⟩
          · refine aw_iinc 7 [(1, .int 7), (0, .int (((Int32.toUInt32 ((x1 ^^^ (-1)) &&& (x1 - 1))) >>> ((Int32.toUInt32 4) &&& Int32.toUInt32 31)).toInt32))] dJ6_numberOfTrailingZeros_0f7a4_67 1 rfl (by decide) (Nat.le_of_ble_eq_true rfl) rfl ?_
            refine aw_iload_n dJ6_numberOfTrailingZeros_0f7a4_70 1 rfl ?_
            refine aw_iconst (v := 2) dJ6_numberOfTrailingZeros_0f7a4_71 (by decide) ?_
            refine aw_iushr dJ6_numberOfTrailingZeros_0f7a4_72 ?_
            refine aw_istore_n [(0, .int (((Int32.toUInt32 (((Int32.toUInt32 ((x1 ^^^ (-1)) &&& (x1 - 1))) >>> ((Int32.toUInt32 4) &&& Int32.toUInt32 31)).toInt32)) >>> ((Int32.toUInt32 2) &&& Int32.toUInt32 31)).toInt32)), (1, .int 7)] dJ6_numberOfTrailingZeros_0f7a4_73 (Nat.le_of_ble_eq_true rfl) rfl ?_
            refine aw_iload_n dJ6_numberOfTrailingZeros_0f7a4_74 1 rfl ?_
            refine aw_iload_n dJ6_numberOfTrailingZeros_0f7a4_75 0 rfl ?_
            refine aw_iconst (v := 1) dJ6_numberOfTrailingZeros_0f7a4_76 (by decide) ?_
            refine aw_iushr dJ6_numberOfTrailingZeros_0f7a4_77 ?_
            refine aw_iadd dJ6_numberOfTrailingZeros_0f7a4_78 ?_
            refine aw_iret dJ6_numberOfTrailingZeros_0f7a4_79 rfl (Nat.zero_le _) (Nat.zero_le _) ?_
            exact ⟨congrArg (fun z => some (Value.int z)) (show sJ6_ntz x1 = 7 + (((Int32.toUInt32 (((Int32.toUInt32 (((Int32.toUInt32 ((x1 ^^^ (-1)) &&& (x1 - 1))) >>> ((Int32.toUInt32 4) &&& Int32.toUInt32 31)).toInt32)) >>> ((Int32.toUInt32 2) &&& Int32.toUInt32 31)).toInt32)) >>> ((Int32.toUInt32 1) &&& Int32.toUInt32 31)).toInt32) by unfold sJ6_ntz; rw [if_pos c1, if_pos c2, if_pos c3, if_neg c4, if_neg c6]).symm, rfl⟩
      · refine aw_iinc 9 [(1, .int 9), (0, .int ((x1 ^^^ (-1)) &&& (x1 - 1)))] dJ6_numberOfTrailingZeros_0f7a4_41 0 rfl (by decide) (Nat.le_of_ble_eq_true rfl) rfl ?_
        refine aw_iload_n dJ6_numberOfTrailingZeros_0f7a4_44 1 rfl ?_
        refine aw_bipush (v := 8) dJ6_numberOfTrailingZeros_0f7a4_45 (by decide) ?_
        refine aw_iushr dJ6_numberOfTrailingZeros_0f7a4_47 ?_
        refine aw_istore_n [(0, .int (((Int32.toUInt32 ((x1 ^^^ (-1)) &&& (x1 - 1))) >>> ((Int32.toUInt32 8) &&& Int32.toUInt32 31)).toInt32)), (1, .int 9)] dJ6_numberOfTrailingZeros_0f7a4_48 (Nat.le_of_ble_eq_true rfl) rfl ?_
        refine aw_iload_n dJ6_numberOfTrailingZeros_0f7a4_49 0 rfl ?_
        refine aw_bipush (v := 16) dJ6_numberOfTrailingZeros_0f7a4_50 (by decide) ?_
        refine aw_icmp_le 62 dJ6_numberOfTrailingZeros_0f7a4_52 (by decide) (fun c7 => ?_) (fun c7 => ?_)
        · refine aw_iload_n dJ6_numberOfTrailingZeros_0f7a4_62 0 rfl ?_
          refine aw_iconst (v := 4) dJ6_numberOfTrailingZeros_0f7a4_63 (by decide) ?_
          refine aw_icmp_le 74 dJ6_numberOfTrailingZeros_0f7a4_64 (by decide) (fun c8 => ?_) (fun c8 => ?_)
          · refine aw_iload_n dJ6_numberOfTrailingZeros_0f7a4_74 1 rfl ?_
            refine aw_iload_n dJ6_numberOfTrailingZeros_0f7a4_75 0 rfl ?_
            refine aw_iconst (v := 1) dJ6_numberOfTrailingZeros_0f7a4_76 (by decide) ?_
            refine aw_iushr dJ6_numberOfTrailingZeros_0f7a4_77 ?_
            refine aw_iadd dJ6_numberOfTrailingZeros_0f7a4_78 ?_
            refine aw_iret dJ6_numberOfTrailingZeros_0f7a4_79 rfl (Nat.zero_le _) (Nat.zero_le _) ?_
            exact ⟨congrArg (fun z => some (Value.int z)) (show sJ6_ntz x1 = 9 + (((Int32.toUInt32 (((Int32.toUInt32 ((x1 ^^^ (-1)) &&& (x1 - 1))) >>> ((Int32.toUInt32 8) &&& Int32.toUInt32 31)).toInt32)) >>> ((Int32.toUInt32 1) &&& Int32.toUInt32 31)).toInt32) by unfold sJ6_ntz; rw [if_pos c1, if_pos c2, if_neg c3, if_pos c7, if_pos c8]).symm, rfl⟩
          · refine aw_iinc 11 [(1, .int 11), (0, .int (((Int32.toUInt32 ((x1 ^^^ (-1)) &&& (x1 - 1))) >>> ((Int32.toUInt32 8) &&& Int32.toUInt32 31)).toInt32))] dJ6_numberOfTrailingZeros_0f7a4_67 1 rfl (by decide) (Nat.le_of_ble_eq_true rfl) rfl ?_
            refine aw_iload_n dJ6_numberOfTrailingZeros_0f7a4_70 1 rfl ?_
            refine aw_iconst (v := 2) dJ6_numberOfTrailingZeros_0f7a4_71 (by decide) ?_
            refine aw_iushr dJ6_numberOfTrailingZeros_0f7a4_72 ?_
            refine aw_istore_n [(0, .int (((Int32.toUInt32 (((Int32.toUInt32 ((x1 ^^^ (-1)) &&& (x1 - 1))) >>> ((Int32.toUInt32 8) &&& Int32.toUInt32 31)).toInt32)) >>> ((Int32.toUInt32 2) &&& Int32.toUInt32 31)).toInt32)), (1, .int 11)] dJ6_numberOfTrailingZeros_0f7a4_73 (Nat.le_of_ble_eq_true rfl) rfl ?_
            refine aw_iload_n dJ6_numberOfTrailingZeros_0f7a4_74 1 rfl ?_
            refine aw_iload_n dJ6_numberOfTrailingZeros_0f7a4_75 0 rfl ?_
            refine aw_iconst (v := 1) dJ6_numberOfTrailingZeros_0f7a4_76 (by decide) ?_
            refine aw_iushr dJ6_numberOfTrailingZeros_0f7a4_77 ?_
            refine aw_iadd dJ6_numberOfTrailingZeros_0f7a4_78 ?_
            refine aw_iret dJ6_numberOfTrailingZeros_0f7a4_79 rfl (Nat.zero_le _) (Nat.zero_le _) ?_
            exact ⟨congrArg (fun z => some (Value.int z)) (show sJ6_ntz x1 = 11 + (((Int32.toUInt32 (((Int32.toUInt32 (((Int32.toUInt32 ((x1 ^^^ (-1)) &&& (x1 - 1))) >>> ((Int32.toUInt32 8) &&& Int32.toUInt32 31)).toInt32)) >>> ((Int32.toUInt32 2) &&& Int32.toUInt32 31)).toInt32)) >>> ((Int32.toUInt32 1) &&& Int32.toUInt32 31)).toInt32) by unfold sJ6_ntz; rw [if_pos c1, if_pos c2, if_neg c3, if_pos c7, if_neg c8]).symm, rfl⟩
        · refine aw_iinc 13 [(1, .int 13), (0, .int (((Int32.toUInt32 ((x1 ^^^ (-1)) &&& (x1 - 1))) >>> ((Int32.toUInt32 8) &&& Int32.toUInt32 31)).toInt32))] dJ6_numberOfTrailingZeros_0f7a4_55 1 rfl (by decide) (Nat.le_of_ble_eq_true rfl) rfl ?_
          refine aw_iload_n dJ6_numberOfTrailingZeros_0f7a4_58 1 rfl ?_
          refine aw_iconst (v := 4) dJ6_numberOfTrailingZeros_0f7a4_59 (by decide) ?_
          refine aw_iushr dJ6_numberOfTrailingZeros_0f7a4_60 ?_
          refine aw_istore_n [(0, .int (((Int32.toUInt32 (((Int32.toUInt32 ((x1 ^^^ (-1)) &&& (x1 - 1))) >>> ((Int32.toUInt32 8) &&& Int32.toUInt32 31)).toInt32)) >>> ((Int32.toUInt32 4) &&& Int32.toUInt32 31)).toInt32)), (1, .int 13)] dJ6_numberOfTrailingZeros_0f7a4_61 (Nat.le_of_ble_eq_true rfl) rfl ?_
          refine aw_iload_n dJ6_numberOfTrailingZeros_0f7a4_62 0 rfl ?_
          refine aw_iconst (v := 4) dJ6_numberOfTrailingZeros_0f7a4_63 (by decide) ?_
          refine aw_icmp_le 74 dJ6_numberOfTrailingZeros_0f7a4_64 (by decide) (fun c9 => ?_) (fun c9 => ?_)
          · refine aw_iload_n dJ6_numberOfTrailingZeros_0f7a4_74 1 rfl ?_
            refine aw_iload_n dJ6_numberOfTrailingZeros_0f7a4_75 0 rfl ?_
            refine aw_iconst (v := 1) dJ6_numberOfTrailingZeros_0f7a4_76 (by decide) ?_
            refine aw_iushr dJ6_numberOfTrailingZeros_0f7a4_77 ?_
            refine aw_iadd dJ6_numberOfTrailingZeros_0f7a4_78 ?_
            refine aw_iret dJ6_numberOfTrailingZeros_0f7a4_79 rfl (Nat.zero_le _) (Nat.zero_le _) ?_
            exact ⟨congrArg (fun z => some (Value.int z)) (show sJ6_ntz x1 = 13 + (((Int32.toUInt32 (((Int32.toUInt32 (((Int32.toUInt32 ((x1 ^^^ (-1)) &&& (x1 - 1))) >>> ((Int32.toUInt32 8) &&& Int32.toUInt32 31)).toInt32)) >>> ((Int32.toUInt32 4) &&& Int32.toUInt32 31)).toInt32)) >>> ((Int32.toUInt32 1) &&& Int32.toUInt32 31)).toInt32) by unfold sJ6_ntz; rw [if_pos c1, if_pos c2, if_neg c3, if_neg c7, if_pos c9]).symm, rfl⟩
          · refine aw_iinc 15 [(1, .int 15), (0, .int (((Int32.toUInt32 (((Int32.toUInt32 ((x1 ^^^ (-1)) &&& (x1 - 1))) >>> ((Int32.toUInt32 8) &&& Int32.toUInt32 31)).toInt32)) >>> ((Int32.toUInt32 4) &&& Int32.toUInt32 31)).toInt32))] dJ6_numberOfTrailingZeros_0f7a4_67 1 rfl (by decide) (Nat.le_of_ble_eq_true rfl) rfl ?_
            refine aw_iload_n dJ6_numberOfTrailingZeros_0f7a4_70 1 rfl ?_
            refine aw_iconst (v := 2) dJ6_numberOfTrailingZeros_0f7a4_71 (by decide) ?_
            refine aw_iushr dJ6_numberOfTrailingZeros_0f7a4_72 ?_
            refine aw_istore_n [(0, .int (((Int32.toUInt32 (((Int32.toUInt32 (((Int32.toUInt32 ((x1 ^^^ (-1)) &&& (x1 - 1))) >>> ((Int32.toUInt32 8) &&& Int32.toUInt32 31)).toInt32)) >>> ((Int32.toUInt32 4) &&& Int32.toUInt32 31)).toInt32)) >>> ((Int32.toUInt32 2) &&& Int32.toUInt32 31)).toInt32)), (1, .int 15)] dJ6_numberOfTrailingZeros_0f7a4_73 (Nat.le_of_ble_eq_true rfl) rfl ?_
            refine aw_iload_n dJ6_numberOfTrailingZeros_0f7a4_74 1 rfl ?_
            refine aw_iload_n dJ6_numberOfTrailingZeros_0f7a4_75 0 rfl ?_
            refine aw_iconst (v := 1) dJ6_numberOfTrailingZeros_0f7a4_76 (by decide) ?_
            refine aw_iushr dJ6_numberOfTrailingZeros_0f7a4_77 ?_
            refine aw_iadd dJ6_numberOfTrailingZeros_0f7a4_78 ?_
            refine aw_iret dJ6_numberOfTrailingZeros_0f7a4_79 rfl (Nat.zero_le _) (Nat.zero_le _) ?_
            exact ⟨congrArg (fun z => some (Value.int z)) (show sJ6_ntz x1 = 15 + (((Int32.toUInt32 (((Int32.toUInt32 (((Int32.toUInt32 (((Int32.toUInt32 ((x1 ^^^ (-1)) &&& (x1 - 1))) >>> ((Int32.toUInt32 8) &&& Int32.toUInt32 31)).toInt32)) >>> ((Int32.toUInt32 4) &&& Int32.toUInt32 31)).toInt32)) >>> ((Int32.toUInt32 2) &&& Int32.toUInt32 31)).toInt32)) >>> ((Int32.toUInt32 1) &&& Int32.toUInt32 31)).toInt32) by unfold sJ6_ntz; rw [if_pos c1, if_pos c2, if_neg c3, if_neg c7, if_neg c9]).symm, rfl⟩
    · refine aw_iinc 17 [(1, .int 17), (0, .int ((x1 ^^^ (-1)) &&& (x1 - 1)))] dJ6_numberOfTrailingZeros_0f7a4_26 0 rfl (by decide) (Nat.le_of_ble_eq_true rfl) rfl ?_
      refine aw_iload_n dJ6_numberOfTrailingZeros_0f7a4_29 1 rfl ?_
      refine aw_bipush (v := 16) dJ6_numberOfTrailingZeros_0f7a4_30 (by decide) ?_
      refine aw_iushr dJ6_numberOfTrailingZeros_0f7a4_32 ?_
      refine aw_istore_n [(0, .int (((Int32.toUInt32 ((x1 ^^^ (-1)) &&& (x1 - 1))) >>> ((Int32.toUInt32 16) &&& Int32.toUInt32 31)).toInt32)), (1, .int 17)] dJ6_numberOfTrailingZeros_0f7a4_33 (Nat.le_of_ble_eq_true rfl) rfl ?_
      refine aw_iload_n dJ6_numberOfTrailingZeros_0f7a4_34 0 rfl ?_
      refine aw_sipush (v := 256) dJ6_numberOfTrailingZeros_0f7a4_35 (by decide) ?_
      refine aw_icmp_le 49 dJ6_numberOfTrailingZeros_0f7a4_38 (by decide) (fun c10 => ?_) (fun c10 => ?_)
      · refine aw_iload_n dJ6_numberOfTrailingZeros_0f7a4_49 0 rfl ?_
        refine aw_bipush (v := 16) dJ6_numberOfTrailingZeros_0f7a4_50 (by decide) ?_
        refine aw_icmp_le 62 dJ6_numberOfTrailingZeros_0f7a4_52 (by decide) (fun c11 => ?_) (fun c11 => ?_)
        · refine aw_iload_n dJ6_numberOfTrailingZeros_0f7a4_62 0 rfl ?_
          refine aw_iconst (v := 4) dJ6_numberOfTrailingZeros_0f7a4_63 (by decide) ?_
          refine aw_icmp_le 74 dJ6_numberOfTrailingZeros_0f7a4_64 (by decide) (fun c12 => ?_) (fun c12 => ?_)
          · refine aw_iload_n dJ6_numberOfTrailingZeros_0f7a4_74 1 rfl ?_
            refine aw_iload_n dJ6_numberOfTrailingZeros_0f7a4_75 0 rfl ?_
            refine aw_iconst (v := 1) dJ6_numberOfTrailingZeros_0f7a4_76 (by decide) ?_
            refine aw_iushr dJ6_numberOfTrailingZeros_0f7a4_77 ?_
            refine aw_iadd dJ6_numberOfTrailingZeros_0f7a4_78 ?_
            refine aw_iret dJ6_numberOfTrailingZeros_0f7a4_79 rfl (Nat.zero_le _) (Nat.zero_le _) ?_
            exact ⟨congrArg (fun z => some (Value.int z)) (show sJ6_ntz x1 = 17 + (((Int32.toUInt32 (((Int32.toUInt32 ((x1 ^^^ (-1)) &&& (x1 - 1))) >>> ((Int32.toUInt32 16) &&& Int32.toUInt32 31)).toInt32)) >>> ((Int32.toUInt32 1) &&& Int32.toUInt32 31)).toInt32) by unfold sJ6_ntz; rw [if_pos c1, if_neg c2, if_pos c10, if_pos c11, if_pos c12]).symm, rfl⟩
          · refine aw_iinc 19 [(1, .int 19), (0, .int (((Int32.toUInt32 ((x1 ^^^ (-1)) &&& (x1 - 1))) >>> ((Int32.toUInt32 16) &&& Int32.toUInt32 31)).toInt32))] dJ6_numberOfTrailingZeros_0f7a4_67 1 rfl (by decide) (Nat.le_of_ble_eq_true rfl) rfl ?_
            refine aw_iload_n dJ6_numberOfTrailingZeros_0f7a4_70 1 rfl ?_
            refine aw_iconst (v := 2) dJ6_numberOfTrailingZeros_0f7a4_71 (by decide) ?_
            refine aw_iushr dJ6_numberOfTrailingZeros_0f7a4_72 ?_
            refine aw_istore_n [(0, .int (((Int32.toUInt32 (((Int32.toUInt32 ((x1 ^^^ (-1)) &&& (x1 - 1))) >>> ((Int32.toUInt32 16) &&& Int32.toUInt32 31)).toInt32)) >>> ((Int32.toUInt32 2) &&& Int32.toUInt32 31)).toInt32)), (1, .int 19)] dJ6_numberOfTrailingZeros_0f7a4_73 (Nat.le_of_ble_eq_true rfl) rfl ?_
            refine aw_iload_n dJ6_numberOfTrailingZeros_0f7a4_74 1 rfl ?_
            refine aw_iload_n dJ6_numberOfTrailingZeros_0f7a4_75 0 rfl ?_
            refine aw_iconst (v := 1) dJ6_numberOfTrailingZeros_0f7a4_76 (by decide) ?_
            refine aw_iushr dJ6_numberOfTrailingZeros_0f7a4_77 ?_
            refine aw_iadd dJ6_numberOfTrailingZeros_0f7a4_78 ?_
            refine aw_iret dJ6_numberOfTrailingZeros_0f7a4_79 rfl (Nat.zero_le _) (Nat.zero_le _) ?_
            exact ⟨congrArg (fun z => some (Value.int z)) (show sJ6_ntz x1 = 19 + (((Int32.toUInt32 (((Int32.toUInt32 (((Int32.toUInt32 ((x1 ^^^ (-1)) &&& (x1 - 1))) >>> ((Int32.toUInt32 16) &&& Int32.toUInt32 31)).toInt32)) >>> ((Int32.toUInt32 2) &&& Int32.toUInt32 31)).toInt32)) >>> ((Int32.toUInt32 1) &&& Int32.toUInt32 31)).toInt32) by unfold sJ6_ntz; rw [if_pos c1, if_neg c2, if_pos c10, if_pos c11, if_neg c12]).symm, rfl⟩
        · refine aw_iinc 21 [(1, .int 21), (0, .int (((Int32.toUInt32 ((x1 ^^^ (-1)) &&& (x1 - 1))) >>> ((Int32.toUInt32 16) &&& Int32.toUInt32 31)).toInt32))] dJ6_numberOfTrailingZeros_0f7a4_55 1 rfl (by decide) (Nat.le_of_ble_eq_true rfl) rfl ?_
          refine aw_iload_n dJ6_numberOfTrailingZeros_0f7a4_58 1 rfl ?_
          refine aw_iconst (v := 4) dJ6_numberOfTrailingZeros_0f7a4_59 (by decide) ?_
          refine aw_iushr dJ6_numberOfTrailingZeros_0f7a4_60 ?_
          refine aw_istore_n [(0, .int (((Int32.toUInt32 (((Int32.toUInt32 ((x1 ^^^ (-1)) &&& (x1 - 1))) >>> ((Int32.toUInt32 16) &&& Int32.toUInt32 31)).toInt32)) >>> ((Int32.toUInt32 4) &&& Int32.toUInt32 31)).toInt32)), (1, .int 21)] dJ6_numberOfTrailingZeros_0f7a4_61 (Nat.le_of_ble_eq_true rfl) rfl ?_
          refine aw_iload_n dJ6_numberOfTrailingZeros_0f7a4_62 0 rfl ?_
          refine aw_iconst (v := 4) dJ6_numberOfTrailingZeros_0f7a4_63 (by decide) ?_
          refine aw_icmp_le 74 dJ6_numberOfTrailingZeros_0f7a4_64 (by decide) (fun c13 => ?_) (fun c13 => ?_)
          · refine aw_iload_n dJ6_numberOfTrailingZeros_0f7a4_74 1 rfl ?_
            refine aw_iload_n dJ6_numberOfTrailingZeros_0f7a4_75 0 rfl ?_
            refine aw_iconst (v := 1) dJ6_numberOfTrailingZeros_0f7a4_76 (by decide) ?_
            refine aw_iushr dJ6_numberOfTrailingZeros_0f7a4_77 ?_
            refine aw_iadd dJ6_numberOfTrailingZeros_0f7a4_78 ?_
            refine aw_iret dJ6_numberOfTrailingZeros_0f7a4_79 rfl (Nat.zero_le _) (Nat.zero_le _) ?_
            exact ⟨congrArg (fun z => some (Value.int z)) (show sJ6_ntz x1 = 21 + (((Int32.toUInt32 (((Int32.toUInt32 (((Int32.toUInt32 ((x1 ^^^ (-1)) &&& (x1 - 1))) >>> ((Int32.toUInt32 16) &&& Int32.toUInt32 31)).toInt32)) >>> ((Int32.toUInt32 4) &&& Int32.toUInt32 31)).toInt32)) >>> ((Int32.toUInt32 1) &&& Int32.toUInt32 31)).toInt32) by unfold sJ6_ntz; rw [if_pos c1, if_neg c2, if_pos c10, if_neg c11, if_pos c13]).symm, rfl⟩
          · refine aw_iinc 23 [(1, .int 23), (0, .int (((Int32.toUInt32 (((Int32.toUInt32 ((x1 ^^^ (-1)) &&& (x1 - 1))) >>> ((Int32.toUInt32 16) &&& Int32.toUInt32 31)).toInt32)) >>> ((Int32.toUInt32 4) &&& Int32.toUInt32 31)).toInt32))] dJ6_numberOfTrailingZeros_0f7a4_67 1 rfl (by decide) (Nat.le_of_ble_eq_true rfl) rfl ?_
            refine aw_iload_n dJ6_numberOfTrailingZeros_0f7a4_70 1 rfl ?_
            refine aw_iconst (v := 2) dJ6_numberOfTrailingZeros_0f7a4_71 (by decide) ?_
            refine aw_iushr dJ6_numberOfTrailingZeros_0f7a4_72 ?_
            refine aw_istore_n [(0, .int (((Int32.toUInt32 (((Int32.toUInt32 (((Int32.toUInt32 ((x1 ^^^ (-1)) &&& (x1 - 1))) >>> ((Int32.toUInt32 16) &&& Int32.toUInt32 31)).toInt32)) >>> ((Int32.toUInt32 4) &&& Int32.toUInt32 31)).toInt32)) >>> ((Int32.toUInt32 2) &&& Int32.toUInt32 31)).toInt32)), (1, .int 23)] dJ6_numberOfTrailingZeros_0f7a4_73 (Nat.le_of_ble_eq_true rfl) rfl ?_
            refine aw_iload_n dJ6_numberOfTrailingZeros_0f7a4_74 1 rfl ?_
            refine aw_iload_n dJ6_numberOfTrailingZeros_0f7a4_75 0 rfl ?_
            refine aw_iconst (v := 1) dJ6_numberOfTrailingZeros_0f7a4_76 (by decide) ?_
            refine aw_iushr dJ6_numberOfTrailingZeros_0f7a4_77 ?_
            refine aw_iadd dJ6_numberOfTrailingZeros_0f7a4_78 ?_
            refine aw_iret dJ6_numberOfTrailingZeros_0f7a4_79 rfl (Nat.zero_le _) (Nat.zero_le _) ?_
            exact ⟨congrArg (fun z => some (Value.int z)) (show sJ6_ntz x1 = 23 + (((Int32.toUInt32 (((Int32.toUInt32 (((Int32.toUInt32 (((Int32.toUInt32 ((x1 ^^^ (-1)) &&& (x1 - 1))) >>> ((Int32.toUInt32 16) &&& Int32.toUInt32 31)).toInt32)) >>> ((Int32.toUInt32 4) &&& Int32.toUInt32 31)).toInt32)) >>> ((Int32.toUInt32 2) &&& Int32.toUInt32 31)).toInt32)) >>> ((Int32.toUInt32 1) &&& Int32.toUInt32 31)).toInt32) by unfold sJ6_ntz; rw [if_pos c1, if_neg c2, if_pos c10, if_neg c11, if_neg c13]).symm, rfl⟩
      · refine aw_iinc 25 [(1, .int 25), (0, .int (((Int32.toUInt32 ((x1 ^^^ (-1)) &&& (x1 - 1))) >>> ((Int32.toUInt32 16) &&& Int32.toUInt32 31)).toInt32))] dJ6_numberOfTrailingZeros_0f7a4_41 1 rfl (by decide) (Nat.le_of_ble_eq_true rfl) rfl ?_
        refine aw_iload_n dJ6_numberOfTrailingZeros_0f7a4_44 1 rfl ?_
        refine aw_bipush (v := 8) dJ6_numberOfTrailingZeros_0f7a4_45 (by decide) ?_
        refine aw_iushr dJ6_numberOfTrailingZeros_0f7a4_47 ?_
        refine aw_istore_n [(0, .int (((Int32.toUInt32 (((Int32.toUInt32 ((x1 ^^^ (-1)) &&& (x1 - 1))) >>> ((Int32.toUInt32 16) &&& Int32.toUInt32 31)).toInt32)) >>> ((Int32.toUInt32 8) &&& Int32.toUInt32 31)).toInt32)), (1, .int 25)] dJ6_numberOfTrailingZeros_0f7a4_48 (Nat.le_of_ble_eq_true rfl) rfl ?_
        refine aw_iload_n dJ6_numberOfTrailingZeros_0f7a4_49 0 rfl ?_
        refine aw_bipush (v := 16) dJ6_numberOfTrailingZeros_0f7a4_50 (by decide) ?_
        refine aw_icmp_le 62 dJ6_numberOfTrailingZeros_0f7a4_52 (by decide) (fun c14 => ?_) (fun c14 => ?_)
        · refine aw_iload_n dJ6_numberOfTrailingZeros_0f7a4_62 0 rfl ?_
          refine aw_iconst (v := 4) dJ6_numberOfTrailingZeros_0f7a4_63 (by decide) ?_
          refine aw_icmp_le 74 dJ6_numberOfTrailingZeros_0f7a4_64 (by decide) (fun c15 => ?_) (fun c15 => ?_)
          · refine aw_iload_n dJ6_numberOfTrailingZeros_0f7a4_74 1 rfl ?_
            refine aw_iload_n dJ6_numberOfTrailingZeros_0f7a4_75 0 rfl ?_
            refine aw_iconst (v := 1) dJ6_numberOfTrailingZeros_0f7a4_76 (by decide) ?_
            refine aw_iushr dJ6_numberOfTrailingZeros_0f7a4_77 ?_
            refine aw_iadd dJ6_numberOfTrailingZeros_0f7a4_78 ?_
            refine aw_iret dJ6_numberOfTrailingZeros_0f7a4_79 rfl (Nat.zero_le _) (Nat.zero_le _) ?_
            exact ⟨congrArg (fun z => some (Value.int z)) (show sJ6_ntz x1 = 25 + (((Int32.toUInt32 (((Int32.toUInt32 (((Int32.toUInt32 ((x1 ^^^ (-1)) &&& (x1 - 1))) >>> ((Int32.toUInt32 16) &&& Int32.toUInt32 31)).toInt32)) >>> ((Int32.toUInt32 8) &&& Int32.toUInt32 31)).toInt32)) >>> ((Int32.toUInt32 1) &&& Int32.toUInt32 31)).toInt32) by unfold sJ6_ntz; rw [if_pos c1, if_neg c2, if_neg c10, if_pos c14, if_pos c15]).symm, rfl⟩
          · refine aw_iinc 27 [(1, .int 27), (0, .int (((Int32.toUInt32 (((Int32.toUInt32 ((x1 ^^^ (-1)) &&& (x1 - 1))) >>> ((Int32.toUInt32 16) &&& Int32.toUInt32 31)).toInt32)) >>> ((Int32.toUInt32 8) &&& Int32.toUInt32 31)).toInt32))] dJ6_numberOfTrailingZeros_0f7a4_67 1 rfl (by decide) (Nat.le_of_ble_eq_true rfl) rfl ?_
            refine aw_iload_n dJ6_numberOfTrailingZeros_0f7a4_70 1 rfl ?_
            refine aw_iconst (v := 2) dJ6_numberOfTrailingZeros_0f7a4_71 (by decide) ?_
            refine aw_iushr dJ6_numberOfTrailingZeros_0f7a4_72 ?_
            refine aw_istore_n [(0, .int (((Int32.toUInt32 (((Int32.toUInt32 (((Int32.toUInt32 ((x1 ^^^ (-1)) &&& (x1 - 1))) >>> ((Int32.toUInt32 16) &&& Int32.toUInt32 31)).toInt32)) >>> ((Int32.toUInt32 8) &&& Int32.toUInt32 31)).toInt32)) >>> ((Int32.toUInt32 2) &&& Int32.toUInt32 31)).toInt32)), (1, .int 27)] dJ6_numberOfTrailingZeros_0f7a4_73 (Nat.le_of_ble_eq_true rfl) rfl ?_
            refine aw_iload_n dJ6_numberOfTrailingZeros_0f7a4_74 1 rfl ?_
            refine aw_iload_n dJ6_numberOfTrailingZeros_0f7a4_75 0 rfl ?_
            refine aw_iconst (v := 1) dJ6_numberOfTrailingZeros_0f7a4_76 (by decide) ?_
            refine aw_iushr dJ6_numberOfTrailingZeros_0f7a4_77 ?_
            refine aw_iadd dJ6_numberOfTrailingZeros_0f7a4_78 ?_
            refine aw_iret dJ6_numberOfTrailingZeros_0f7a4_79 rfl (Nat.zero_le _) (Nat.zero_le _) ?_
            exact ⟨congrArg (fun z => some (Value.int z)) (show sJ6_ntz x1 = 27 + (((Int32.toUInt32 (((Int32.toUInt32 (((Int32.toUInt32 (((Int32.toUInt32 ((x1 ^^^ (-1)) &&& (x1 - 1))) >>> ((Int32.toUInt32 16) &&& Int32.toUInt32 31)).toInt32)) >>> ((Int32.toUInt32 8) &&& Int32.toUInt32 31)).toInt32)) >>> ((Int32.toUInt32 2) &&& Int32.toUInt32 31)).toInt32)) >>> ((Int32.toUInt32 1) &&& Int32.toUInt32 31)).toInt32) by unfold sJ6_ntz; rw [if_pos c1, if_neg c2, if_neg c10, if_pos c14, if_neg c15]).symm, rfl⟩
        · refine aw_iinc 29 [(1, .int 29), (0, .int (((Int32.toUInt32 (((Int32.toUInt32 ((x1 ^^^ (-1)) &&& (x1 - 1))) >>> ((Int32.toUInt32 16) &&& Int32.toUInt32 31)).toInt32)) >>> ((Int32.toUInt32 8) &&& Int32.toUInt32 31)).toInt32))] dJ6_numberOfTrailingZeros_0f7a4_55 1 rfl (by decide) (Nat.le_of_ble_eq_true rfl) rfl ?_
          refine aw_iload_n dJ6_numberOfTrailingZeros_0f7a4_58 1 rfl ?_
          refine aw_iconst (v := 4) dJ6_numberOfTrailingZeros_0f7a4_59 (by decide) ?_
          refine aw_iushr dJ6_numberOfTrailingZeros_0f7a4_60 ?_
          refine aw_istore_n [(0, .int (((Int32.toUInt32 (((Int32.toUInt32 (((Int32.toUInt32 ((x1 ^^^ (-1)) &&& (x1 - 1))) >>> ((Int32.toUInt32 16) &&& Int32.toUInt32 31)).toInt32)) >>> ((Int32.toUInt32 8) &&& Int32.toUInt32 31)).toInt32)) >>> ((Int32.toUInt32 4) &&& Int32.toUInt32 31)).toInt32)), (1, .int 29)] dJ6_numberOfTrailingZeros_0f7a4_61 (Nat.le_of_ble_eq_true rfl) rfl ?_
          refine aw_iload_n dJ6_numberOfTrailingZeros_0f7a4_62 0 rfl ?_
          refine aw_iconst (v := 4) dJ6_numberOfTrailingZeros_0f7a4_63 (by decide) ?_
          refine aw_icmp_le 74 dJ6_numberOfTrailingZeros_0f7a4_64 (by decide) (fun c16 => ?_) (fun c16 => ?_)
          · refine aw_iload_n dJ6_numberOfTrailingZeros_0f7a4_74 1 rfl ?_
            refine aw_iload_n dJ6_numberOfTrailingZeros_0f7a4_75 0 rfl ?_
            refine aw_iconst (v := 1) dJ6_numberOfTrailingZeros_0f7a4_76 (by decide) ?_
            refine aw_iushr dJ6_numberOfTrailingZeros_0f7a4_77 ?_
            refine aw_iadd dJ6_numberOfTrailingZeros_0f7a4_78 ?_
            refine aw_iret dJ6_numberOfTrailingZeros_0f7a4_79 rfl (Nat.zero_le _) (Nat.zero_le _) ?_
            exact ⟨congrArg (fun z => some (Value.int z)) (show sJ6_ntz x1 = 29 + (((Int32.toUInt32 (((Int32.toUInt32 (((Int32.toUInt32 (((Int32.toUInt32 ((x1 ^^^ (-1)) &&& (x1 - 1))) >>> ((Int32.toUInt32 16) &&& Int32.toUInt32 31)).toInt32)) >>> ((Int32.toUInt32 8) &&& Int32.toUInt32 31)).toInt32)) >>> ((Int32.toUInt32 4) &&& Int32.toUInt32 31)).toInt32)) >>> ((Int32.toUInt32 1) &&& Int32.toUInt32 31)).toInt32) by unfold sJ6_ntz; rw [if_pos c1, if_neg c2, if_neg c10, if_neg c14, if_pos c16]).symm, rfl⟩
          · refine aw_iinc 31 [(1, .int 31), (0, .int (((Int32.toUInt32 (((Int32.toUInt32 (((Int32.toUInt32 ((x1 ^^^ (-1)) &&& (x1 - 1))) >>> ((Int32.toUInt32 16) &&& Int32.toUInt32 31)).toInt32)) >>> ((Int32.toUInt32 8) &&& Int32.toUInt32 31)).toInt32)) >>> ((Int32.toUInt32 4) &&& Int32.toUInt32 31)).toInt32))] dJ6_numberOfTrailingZeros_0f7a4_67 1 rfl (by decide) (Nat.le_of_ble_eq_true rfl) rfl ?_
            refine aw_iload_n dJ6_numberOfTrailingZeros_0f7a4_70 1 rfl ?_
            refine aw_iconst (v := 2) dJ6_numberOfTrailingZeros_0f7a4_71 (by decide) ?_
            refine aw_iushr dJ6_numberOfTrailingZeros_0f7a4_72 ?_
            refine aw_istore_n [(0, .int (((Int32.toUInt32 (((Int32.toUInt32 (((Int32.toUInt32 (((Int32.toUInt32 ((x1 ^^^ (-1)) &&& (x1 - 1))) >>> ((Int32.toUInt32 16) &&& Int32.toUInt32 31)).toInt32)) >>> ((Int32.toUInt32 8) &&& Int32.toUInt32 31)).toInt32)) >>> ((Int32.toUInt32 4) &&& Int32.toUInt32 31)).toInt32)) >>> ((Int32.toUInt32 2) &&& Int32.toUInt32 31)).toInt32)), (1, .int 31)] dJ6_numberOfTrailingZeros_0f7a4_73 (Nat.le_of_ble_eq_true rfl) rfl ?_
            refine aw_iload_n dJ6_numberOfTrailingZeros_0f7a4_74 1 rfl ?_
            refine aw_iload_n dJ6_numberOfTrailingZeros_0f7a4_75 0 rfl ?_
            refine aw_iconst (v := 1) dJ6_numberOfTrailingZeros_0f7a4_76 (by decide) ?_
            refine aw_iushr dJ6_numberOfTrailingZeros_0f7a4_77 ?_
            refine aw_iadd dJ6_numberOfTrailingZeros_0f7a4_78 ?_
            refine aw_iret dJ6_numberOfTrailingZeros_0f7a4_79 rfl (Nat.zero_le _) (Nat.zero_le _) ?_
            exact ⟨congrArg (fun z => some (Value.int z)) (show sJ6_ntz x1 = 31 + (((Int32.toUInt32 (((Int32.toUInt32 (((Int32.toUInt32 (((Int32.toUInt32 (((Int32.toUInt32 ((x1 ^^^ (-1)) &&& (x1 - 1))) >>> ((Int32.toUInt32 16) &&& Int32.toUInt32 31)).toInt32)) >>> ((Int32.toUInt32 8) &&& Int32.toUInt32 31)).toInt32)) >>> ((Int32.toUInt32 4) &&& Int32.toUInt32 31)).toInt32)) >>> ((Int32.toUInt32 2) &&& Int32.toUInt32 31)).toInt32)) >>> ((Int32.toUInt32 1) &&& Int32.toUInt32 31)).toInt32) by unfold sJ6_ntz; rw [if_pos c1, if_neg c2, if_neg c10, if_neg c14, if_neg c16]).symm, rfl⟩
  · refine aw_iload_n dJ6_numberOfTrailingZeros_0f7a4_12 0 rfl ?_
    refine aw_bipush (v := 32) dJ6_numberOfTrailingZeros_0f7a4_13 (by decide) ?_
    refine aw_iand dJ6_numberOfTrailingZeros_0f7a4_15 ?_
    refine aw_iret dJ6_numberOfTrailingZeros_0f7a4_16 rfl (Nat.zero_le _) (Nat.zero_le _) ?_
    exact ⟨congrArg (fun z => some (Value.int z)) (show sJ6_ntz x1 = ((x1 ^^^ (-1)) &&& (x1 - 1)) &&& 32 by unfold sJ6_ntz; rw [if_neg c1]).symm, rfl⟩
def sJ13_nlz (x1 : Int64) : Int32 := (if (Int64.toInt32 (((Int64.toUInt64 x1) >>> ((Int32.toInt64 32).toUInt64 &&& Int64.toUInt64 63)).toInt64)) = 0 then 32 + (sJ6_nlz (Int64.toInt32 x1)) else sJ6_nlz (Int64.toInt32 (((Int64.toUInt64 x1) >>> ((Int32.toInt64 32).toUInt64 &&& Int64.toUInt64 63)).toInt64)))
theorem sp_J13_numberOfLeadingZeros_95d88 {d : Nat} (hd : 1 ≤ d) {M : xM} (x1 : Int64)  : Sp (fJ13_numberOfLeadingZeros_95d88 d) [.long x1] M (dt (some (.int (sJ13_nlz x1))) (M)) := by
  refine Sp.of pn_J13 (Nat.le_of_ble_eq_true rfl) (fun h => Bool.noConfusion h) ?_
  refine aw_lload_n dJ13_numberOfLeadingZeros_95d88_0 0 rfl ?_
  refine aw_bipush (v := 32) dJ13_numberOfLeadingZeros_95d88_1 (by decide) ?_
  refine aw_lushr dJ13_numberOfLeadingZeros_95d88_3 ?_
  refine aw_l2i dJ13_numberOfLeadingZeros_95d88_4 ?_
  refine aw_istore_n [(2, .int (Int64.toInt32 (((Int64.toUInt64 x1) >>> ((Int32.toInt64 32).toUInt64 &&& Int64.toUInt64 63)).toInt64))), (0, .long x1)] dJ13_numberOfLeadingZeros_95d88_5 (Nat.le_of_ble_eq_true rfl) rfl ?_
  refine aw_iload_n dJ13_numberOfLeadingZeros_95d88_6 0 rfl ?_
  refine aw_if_ne 21 dJ13_numberOfLeadingZeros_95d88_7 (by decide) (fun c1 => ?_) (fun c1 => ?_)
  · refine aw_iload_n dJ13_numberOfLeadingZeros_95d88_21 0 rfl ?_
    refine aw_callSi [.int (Int64.toInt32 (((Int64.toUInt64 x1) >>> ((Int32.toInt64 32).toUInt64 &&& Int64.toUInt64 63)).toInt64))] [] (sp_J6_numberOfLeadingZeros_0f7a4 (d := d - 1) (by omega) (Int64.toInt32 (((Int64.toUInt64 x1) >>> ((Int32.toInt64 32).toUInt64 &&& Int64.toUInt64 63)).toInt64)) ) dJ13_numberOfLeadingZeros_95d88_22 ml_J13_308 sm_J6_numberOfLeadingZeros_0f7a4 rfl (dl1 (d := d) (by omega)) rfl rfl (Nat.le_of_ble_eq_true rfl) rfl rfl (Nat.zero_le _) (Nat.zero_le _) ?_
    refine aw_iret dJ13_numberOfLeadingZeros_95d88_25 rfl (Nat.zero_le _) (Nat.zero_le _) ?_
    exact ⟨congrArg (fun z => some (Value.int z)) (show sJ13_nlz x1 = sJ6_nlz (Int64.toInt32 (((Int64.toUInt64 x1) >>> ((Int32.toInt64 32).toUInt64 &&& Int64.toUInt64 63)).toInt64)) by unfold sJ13_nlz; rw [if_neg c1]).symm, rfl⟩
  · refine aw_bipush (v := 32) dJ13_numberOfLeadingZeros_95d88_10 (by decide) ?_
    refine aw_lload_n dJ13_numberOfLeadingZeros_95d88_12 1 rfl ?_
    refine aw_l2i dJ13_numberOfLeadingZeros_95d88_13 ?_
    refine aw_callSi [.int (Int64.toInt32 x1)] [.int 32] (sp_J6_numberOfLeadingZeros_0f7a4 (d := d - 1) (by omega) (Int64.toInt32 x1) ) dJ13_numberOfLeadingZeros_95d88_14 ml_J13_308 sm_J6_numberOfLeadingZeros_0f7a4 rfl (dl1 (d := d) (by omega)) rfl rfl (Nat.le_of_ble_eq_true rfl) rfl rfl (Nat.zero_le _) (Nat.zero_le _) ?_
    refine aw_iadd dJ13_numberOfLeadingZeros_95d88_17 ?_
    refine aw_goto 25 dJ13_numberOfLeadingZeros_95d88_18 (by decide) ?_
    refine aw_iret dJ13_numberOfLeadingZeros_95d88_25 rfl (Nat.zero_le _) (Nat.zero_le _) ?_
    exact ⟨congrArg (fun z => some (Value.int z)) (show sJ13_nlz x1 = 32 + (sJ6_nlz (Int64.toInt32 x1)) by unfold sJ13_nlz; rw [if_pos c1]).symm, rfl⟩
def sJ13_ntz (x1 : Int64) : Int32 := (if (Int64.toInt32 x1) = 0 then 32 + (sJ6_ntz (Int64.toInt32 (((Int64.toUInt64 x1) >>> ((Int32.toInt64 32).toUInt64 &&& Int64.toUInt64 63)).toInt64))) else sJ6_ntz (Int64.toInt32 x1))
theorem sp_J13_numberOfTrailingZeros_95d88 {d : Nat} (hd : 1 ≤ d) {M : xM} (x1 : Int64)  : Sp (fJ13_numberOfTrailingZeros_95d88 d) [.long x1] M (dt (some (.int (sJ13_ntz x1))) (M)) := by
  refine Sp.of pn_J13 (Nat.le_of_ble_eq_true rfl) (fun h => Bool.noConfusion h) ?_
  refine aw_lload_n dJ13_numberOfTrailingZeros_95d88_0 0 rfl ?_
  refine aw_l2i dJ13_numberOfTrailingZeros_95d88_1 ?_
  refine aw_istore_n [(2, .int (Int64.toInt32 x1)), (0, .long x1)] dJ13_numberOfTrailingZeros_95d88_2 (Nat.le_of_ble_eq_true rfl) rfl ?_
  refine aw_iload_n dJ13_numberOfTrailingZeros_95d88_3 0 rfl ?_
  refine aw_if_ne 21 dJ13_numberOfTrailingZeros_95d88_4 (by decide) (fun c1 => ?_) (fun c1 => ?_)
  · refine aw_iload_n dJ13_numberOfTrailingZeros_95d88_21 0 rfl ?_
    refine aw_callSi [.int (Int64.toInt32 x1)] [] (sp_J6_numberOfTrailingZeros_0f7a4 (d := d - 1) (by omega) (Int64.toInt32 x1) ) dJ13_numberOfTrailingZeros_95d88_22 ml_J13_311 sm_J6_numberOfTrailingZeros_0f7a4 rfl (dl1 (d := d) (by omega)) rfl rfl (Nat.le_of_ble_eq_true rfl) rfl rfl (Nat.zero_le _) (Nat.zero_le _) ?_
    refine aw_iret dJ13_numberOfTrailingZeros_95d88_25 rfl (Nat.zero_le _) (Nat.zero_le _) ?_
    exact ⟨congrArg (fun z => some (Value.int z)) (show sJ13_ntz x1 = sJ6_ntz (Int64.toInt32 x1) by unfold sJ13_ntz; rw [if_neg c1]).symm, rfl⟩
  · refine aw_bipush (v := 32) dJ13_numberOfTrailingZeros_95d88_7 (by decide) ?_
    refine aw_lload_n dJ13_numberOfTrailingZeros_95d88_9 1 rfl ?_
    refine aw_bipush (v := 32) dJ13_numberOfTrailingZeros_95d88_10 (by decide) ?_
    refine aw_lushr dJ13_numberOfTrailingZeros_95d88_12 ?_
    refine aw_l2i dJ13_numberOfTrailingZeros_95d88_13 ?_
    refine aw_callSi [.int (Int64.toInt32 (((Int64.toUInt64 x1) >>> ((Int32.toInt64 32).toUInt64 &&& Int64.toUInt64 63)).toInt64))] [.int 32] (sp_J6_numberOfTrailingZeros_0f7a4 (d := d - 1) (by omega) (Int64.toInt32 (((Int64.toUInt64 x1) >>> ((Int32.toInt64 32).toUInt64 &&& Int64.toUInt64 63)).toInt64)) ) dJ13_numberOfTrailingZeros_95d88_14 ml_J13_311 sm_J6_numberOfTrailingZeros_0f7a4 rfl (dl1 (d := d) (by omega)) rfl rfl (Nat.le_of_ble_eq_true rfl) rfl rfl (Nat.zero_le _) (Nat.zero_le _) ?_
    refine aw_iadd dJ13_numberOfTrailingZeros_95d88_17 ?_
    refine aw_goto 25 dJ13_numberOfTrailingZeros_95d88_18 (by decide) ?_
    refine aw_iret dJ13_numberOfTrailingZeros_95d88_25 rfl (Nat.zero_le _) (Nat.zero_le _) ?_
    exact ⟨congrArg (fun z => some (Value.int z)) (show sJ13_ntz x1 = 32 + (sJ6_ntz (Int64.toInt32 (((Int64.toUInt64 x1) >>> ((Int32.toInt64 32).toUInt64 &&& Int64.toUInt64 63)).toInt64))) by unfold sJ13_ntz; rw [if_pos c1]).symm, rfl⟩
def sX0_scaledBits (x1 : Int32) (x2 : Int64) (x3 : Int32) : Int64 := (if x2 = (0 : Int64) then (0 : Int64) else (if (0 : Int64) ≤ x2 then (if x1 = 6 then ((0 : Int64) ||| ((Int32.toInt64 (((x3 - 3) + (63 - (sJ13_nlz x2))) + 127)) <<< ((Int32.toInt64 23) &&& 63))) ||| ((x2 <<< ((Int32.toInt64 (23 - (63 - (sJ13_nlz x2)))) &&& 63)) - ((1 : Int64) <<< ((Int32.toInt64 23) &&& 63))) else ((0 : Int64) ||| ((Int32.toInt64 (((x3 - 3) + (63 - (sJ13_nlz x2))) + 1023)) <<< ((Int32.toInt64 52) &&& 63))) ||| ((x2 <<< ((Int32.toInt64 (52 - (63 - (sJ13_nlz x2)))) &&& 63)) - ((1 : Int64) <<< ((Int32.toInt64 52) &&& 63)))) else (if x1 = 6 then (((-1 : Int64) <<< ((Int32.toInt64 31) &&& 63)) ||| ((Int32.toInt64 (((x3 - 3) + (63 - (sJ13_nlz (-x2)))) + 127)) <<< ((Int32.toInt64 23) &&& 63))) ||| (((-x2) <<< ((Int32.toInt64 (23 - (63 - (sJ13_nlz (-x2))))) &&& 63)) - ((1 : Int64) <<< ((Int32.toInt64 23) &&& 63))) else (((-1 : Int64) <<< ((Int32.toInt64 63) &&& 63)) ||| ((Int32.toInt64 (((x3 - 3) + (63 - (sJ13_nlz (-x2)))) + 1023)) <<< ((Int32.toInt64 52) &&& 63))) ||| (((-x2) <<< ((Int32.toInt64 (52 - (63 - (sJ13_nlz (-x2))))) &&& 63)) - ((1 : Int64) <<< ((Int32.toInt64 52) &&& 63))))))
theorem sp_X0_scaledBits {d : Nat} (hd : 2 ≤ d) {M : xM} (x1 : Int32) (x2 : Int64) (x3 : Int32)  : Sp (fX0_scaledBits d) [.int x1, .long x2, .int x3] M (dt (some (.long (sX0_scaledBits x1 x2 x3))) (M)) := by
  refine Sp.of pn_X0 (Nat.le_of_ble_eq_true rfl) (fun h => Bool.noConfusion h) ?_
  refine aw_lload_n dX0_scaledBits_0 1 rfl ?_
  refine aw_lconst (v := 0) dX0_scaledBits_1 (by decide) ?_
  refine aw_lne 8 dX0_scaledBits_2 dX0_scaledBits_3 (by decide) (fun c1 => ?_) (fun c1 => ?_)
  · refine aw_lload_n dX0_scaledBits_8 1 rfl ?_
    refine aw_lconst (v := 0) dX0_scaledBits_9 (by decide) ?_
    refine aw_lge 19 dX0_scaledBits_10 dX0_scaledBits_11 (by decide) (fun c2 => ?_) (fun c2 => ?_)
    · refine aw_lload_n dX0_scaledBits_19 1 rfl ?_
      refine aw_lstore [(4, .long x2), (0, .int x1), (1, .long x2), (3, .int x3)] dX0_scaledBits_20 (Nat.le_of_ble_eq_true rfl) rfl ?_
      refine aw_bipush (v := 63) dX0_scaledBits_22 (by decide) ?_
      refine aw_lload dX0_scaledBits_24 0 rfl ?_
      refine aw_callSi [.long x2] [.int 63] (sp_J13_numberOfLeadingZeros_95d88 (d := d - 1) (by omega) x2 ) dX0_scaledBits_26 ml_X0_49 sm_J13_numberOfLeadingZeros_95d88 rfl (dl1 (d := d) (by omega)) rfl rfl (Nat.le_of_ble_eq_true rfl) rfl rfl (Nat.zero_le _) (Nat.zero_le _) ?_
      refine aw_isub dX0_scaledBits_29 ?_
      refine aw_istore [(6, .int (63 - (sJ13_nlz x2))), (4, .long x2), (0, .int x1), (1, .long x2), (3, .int x3)] dX0_scaledBits_30 (Nat.le_of_ble_eq_true rfl) rfl ?_
      refine aw_iload_n dX0_scaledBits_32 2 rfl ?_
      refine aw_bipush (v := 6) dX0_scaledBits_33 (by decide) ?_
      refine aw_icmp_ne 43 dX0_scaledBits_35 (by decide) (fun c3 => ?_) (fun c3 => ?_)
      · refine aw_bipush (v := 52) dX0_scaledBits_43 (by decide) ?_
        refine aw_istore [(7, .int 52), (6, .int (63 - (sJ13_nlz x2))), (4, .long x2), (0, .int x1), (1, .long x2), (3, .int x3)] dX0_scaledBits_45 (Nat.le_of_ble_eq_true rfl) rfl ?_
        refine aw_lload_n dX0_scaledBits_47 4 rfl ?_
        refine aw_lconst (v := 0) dX0_scaledBits_48 (by decide) ?_
        refine aw_lge 73 dX0_scaledBits_49 dX0_scaledBits_50 (by decide) (fun c4 => ?_) (fun c4 => absurd c2 c4)
        refine aw_lconst (v := 0) dX0_scaledBits_73 (by decide) ?_
        refine aw_lstore [(8, .long (0 : Int64)), (7, .int 52), (6, .int (63 - (sJ13_nlz x2))), (4, .long x2), (0, .int x1), (1, .long x2), (3, .int x3)] dX0_scaledBits_74 (Nat.le_of_ble_eq_true rfl) rfl ?_
        refine aw_iload_n dX0_scaledBits_76 6 rfl ?_
        refine aw_iconst (v := 3) dX0_scaledBits_77 (by decide) ?_
        refine aw_isub dX0_scaledBits_78 ?_
        refine aw_iload dX0_scaledBits_79 2 rfl ?_
        refine aw_iadd dX0_scaledBits_81 ?_
        refine aw_iload_n dX0_scaledBits_82 4 rfl ?_
        refine aw_bipush (v := 6) dX0_scaledBits_83 (by decide) ?_
        refine aw_icmp_ne 93 dX0_scaledBits_85 (by decide) (fun c5 => ?_) (fun c5 => absurd c5 c3)
        refine aw_sipush (v := 1023) dX0_scaledBits_93 (by decide) ?_
        refine aw_iadd dX0_scaledBits_96 ?_
        refine aw_i2l dX0_scaledBits_97 ?_
        refine aw_lstore [(10, .long (Int32.toInt64 (((x3 - 3) + (63 - (sJ13_nlz x2))) + 1023))), (8, .long (0 : Int64)), (7, .int 52), (6, .int (63 - (sJ13_nlz x2))), (4, .long x2), (0, .int x1), (1, .long x2), (3, .int x3)] dX0_scaledBits_98 (Nat.le_of_ble_eq_true rfl) rfl ?_
        refine aw_lload dX0_scaledBits_100 1 rfl ?_
        refine aw_lload dX0_scaledBits_102 0 rfl ?_
        refine aw_iload dX0_scaledBits_104 2 rfl ?_
        refine aw_lshl dX0_scaledBits_106 ?_
        refine aw_lor dX0_scaledBits_107 ?_
        refine aw_lload dX0_scaledBits_108 4 rfl ?_
        refine aw_iload dX0_scaledBits_110 2 rfl ?_
        refine aw_iload dX0_scaledBits_112 3 rfl ?_
        refine aw_isub dX0_scaledBits_114 ?_
        refine aw_lshl dX0_scaledBits_115 ?_
        refine aw_lconst (v := 1) dX0_scaledBits_116 (by decide) ?_
        refine aw_iload dX0_scaledBits_117 2 rfl ?_
        refine aw_lshl dX0_scaledBits_119 ?_
        refine aw_lsub dX0_scaledBits_120 ?_
        refine aw_lor dX0_scaledBits_121 ?_
        refine aw_lret dX0_scaledBits_122 rfl (Nat.zero_le _) (Nat.zero_le _) ?_
        exact ⟨congrArg (fun z => some (Value.long z)) (show sX0_scaledBits x1 x2 x3 = ((0 : Int64) ||| ((Int32.toInt64 (((x3 - 3) + (63 - (sJ13_nlz x2))) + 1023)) <<< ((Int32.toInt64 52) &&& 63))) ||| ((x2 <<< ((Int32.toInt64 (52 - (63 - (sJ13_nlz x2)))) &&& 63)) - ((1 : Int64) <<< ((Int32.toInt64 52) &&& 63))) by unfold sX0_scaledBits; rw [if_neg c1, if_pos c2, if_neg c3]).symm, rfl⟩
      · refine aw_bipush (v := 23) dX0_scaledBits_38 (by decide) ?_
        refine aw_goto 45 dX0_scaledBits_40 (by decide) ?_
        refine aw_istore [(7, .int 23), (6, .int (63 - (sJ13_nlz x2))), (4, .long x2), (0, .int x1), (1, .long x2), (3, .int x3)] dX0_scaledBits_45 (Nat.le_of_ble_eq_true rfl) rfl ?_
        refine aw_lload_n dX0_scaledBits_47 4 rfl ?_
        refine aw_lconst (v := 0) dX0_scaledBits_48 (by decide) ?_
        refine aw_lge 73 dX0_scaledBits_49 dX0_scaledBits_50 (by decide) (fun c6 => ?_) (fun c6 => absurd c2 c6)
        refine aw_lconst (v := 0) dX0_scaledBits_73 (by decide) ?_
        refine aw_lstore [(8, .long (0 : Int64)), (7, .int 23), (6, .int (63 - (sJ13_nlz x2))), (4, .long x2), (0, .int x1), (1, .long x2), (3, .int x3)] dX0_scaledBits_74 (Nat.le_of_ble_eq_true rfl) rfl ?_
        refine aw_iload_n dX0_scaledBits_76 6 rfl ?_
        refine aw_iconst (v := 3) dX0_scaledBits_77 (by decide) ?_
        refine aw_isub dX0_scaledBits_78 ?_
        refine aw_iload dX0_scaledBits_79 2 rfl ?_
        refine aw_iadd dX0_scaledBits_81 ?_
        refine aw_iload_n dX0_scaledBits_82 4 rfl ?_
        refine aw_bipush (v := 6) dX0_scaledBits_83 (by decide) ?_
        refine aw_icmp_ne 93 dX0_scaledBits_85 (by decide) (fun c7 => absurd c3 c7) (fun c7 => ?_)
        refine aw_bipush (v := 127) dX0_scaledBits_88 (by decide) ?_
        refine aw_goto 96 dX0_scaledBits_90 (by decide) ?_
        refine aw_iadd dX0_scaledBits_96 ?_
        refine aw_i2l dX0_scaledBits_97 ?_
        refine aw_lstore [(10, .long (Int32.toInt64 (((x3 - 3) + (63 - (sJ13_nlz x2))) + 127))), (8, .long (0 : Int64)), (7, .int 23), (6, .int (63 - (sJ13_nlz x2))), (4, .long x2), (0, .int x1), (1, .long x2), (3, .int x3)] dX0_scaledBits_98 (Nat.le_of_ble_eq_true rfl) rfl ?_
        refine aw_lload dX0_scaledBits_100 1 rfl ?_
        refine aw_lload dX0_scaledBits_102 0 rfl ?_
        refine aw_iload dX0_scaledBits_104 2 rfl ?_
        refine aw_lshl dX0_scaledBits_106 ?_
        refine aw_lor dX0_scaledBits_107 ?_
        refine aw_lload dX0_scaledBits_108 4 rfl ?_
        refine aw_iload dX0_scaledBits_110 2 rfl ?_
        refine aw_iload dX0_scaledBits_112 3 rfl ?_
        refine aw_isub dX0_scaledBits_114 ?_
        refine aw_lshl dX0_scaledBits_115 ?_
        refine aw_lconst (v := 1) dX0_scaledBits_116 (by decide) ?_
        refine aw_iload dX0_scaledBits_117 2 rfl ?_
        refine aw_lshl dX0_scaledBits_119 ?_
        refine aw_lsub dX0_scaledBits_120 ?_
        refine aw_lor dX0_scaledBits_121 ?_
        refine aw_lret dX0_scaledBits_122 rfl (Nat.zero_le _) (Nat.zero_le _) ?_
        exact ⟨congrArg (fun z => some (Value.long z)) (show sX0_scaledBits x1 x2 x3 = ((0 : Int64) ||| ((Int32.toInt64 (((x3 - 3) + (63 - (sJ13_nlz x2))) + 127)) <<< ((Int32.toInt64 23) &&& 63))) ||| ((x2 <<< ((Int32.toInt64 (23 - (63 - (sJ13_nlz x2)))) &&& 63)) - ((1 : Int64) <<< ((Int32.toInt64 23) &&& 63))) by unfold sX0_scaledBits; rw [if_neg c1, if_pos c2, if_pos c3]).symm, rfl⟩
    · refine aw_lload_n dX0_scaledBits_14 1 rfl ?_
      refine aw_lneg dX0_scaledBits_15 ?_
      refine aw_goto 20 dX0_scaledBits_16 (by decide) ?_
      refine aw_lstore [(4, .long (-x2)), (0, .int x1), (1, .long x2), (3, .int x3)] dX0_scaledBits_20 (Nat.le_of_ble_eq_true rfl) rfl ?_
      refine aw_bipush (v := 63) dX0_scaledBits_22 (by decide) ?_
      refine aw_lload dX0_scaledBits_24 0 rfl ?_
      refine aw_callSi [.long (-x2)] [.int 63] (sp_J13_numberOfLeadingZeros_95d88 (d := d - 1) (by omega) (-x2) ) dX0_scaledBits_26 ml_X0_49 sm_J13_numberOfLeadingZeros_95d88 rfl (dl1 (d := d) (by omega)) rfl rfl (Nat.le_of_ble_eq_true rfl) rfl rfl (Nat.zero_le _) (Nat.zero_le _) ?_
      refine aw_isub dX0_scaledBits_29 ?_
      refine aw_istore [(6, .int (63 - (sJ13_nlz (-x2)))), (4, .long (-x2)), (0, .int x1), (1, .long x2), (3, .int x3)] dX0_scaledBits_30 (Nat.le_of_ble_eq_true rfl) rfl ?_
      refine aw_iload_n dX0_scaledBits_32 2 rfl ?_
      refine aw_bipush (v := 6) dX0_scaledBits_33 (by decide) ?_
      refine aw_icmp_ne 43 dX0_scaledBits_35 (by decide) (fun c8 => ?_) (fun c8 => ?_)
      · refine aw_bipush (v := 52) dX0_scaledBits_43 (by decide) ?_
        refine aw_istore [(7, .int 52), (6, .int (63 - (sJ13_nlz (-x2)))), (4, .long (-x2)), (0, .int x1), (1, .long x2), (3, .int x3)] dX0_scaledBits_45 (Nat.le_of_ble_eq_true rfl) rfl ?_
        refine aw_lload_n dX0_scaledBits_47 4 rfl ?_
        refine aw_lconst (v := 0) dX0_scaledBits_48 (by decide) ?_
        refine aw_lge 73 dX0_scaledBits_49 dX0_scaledBits_50 (by decide) (fun c9 => absurd c9 c2) (fun c9 => ?_)
        refine aw_ldc2 dX0_scaledBits_53 kc_X0_55 ?_
        refine aw_iload_n dX0_scaledBits_56 3 rfl ?_
        refine aw_bipush (v := 6) dX0_scaledBits_57 (by decide) ?_
        refine aw_icmp_ne 67 dX0_scaledBits_59 (by decide) (fun c10 => ?_) (fun c10 => absurd c10 c8)
        refine aw_bipush (v := 63) dX0_scaledBits_67 (by decide) ?_
        refine aw_lshl dX0_scaledBits_69 ?_
        refine aw_goto 74 dX0_scaledBits_70 (by decide) ?_
        refine aw_lstore [(8, .long ((-1 : Int64) <<< ((Int32.toInt64 63) &&& 63))), (7, .int 52), (6, .int (63 - (sJ13_nlz (-x2)))), (4, .long (-x2)), (0, .int x1), (1, .long x2), (3, .int x3)] dX0_scaledBits_74 (Nat.le_of_ble_eq_true rfl) rfl ?_
        refine aw_iload_n dX0_scaledBits_76 6 rfl ?_
        refine aw_iconst (v := 3) dX0_scaledBits_77 (by decide) ?_
        refine aw_isub dX0_scaledBits_78 ?_
        refine aw_iload dX0_scaledBits_79 2 rfl ?_
        refine aw_iadd dX0_scaledBits_81 ?_
        refine aw_iload_n dX0_scaledBits_82 4 rfl ?_
        refine aw_bipush (v := 6) dX0_scaledBits_83 (by decide) ?_
        refine aw_icmp_ne 93 dX0_scaledBits_85 (by decide) (fun c11 => ?_) (fun c11 => absurd c11 c10)
        refine aw_sipush (v := 1023) dX0_scaledBits_93 (by decide) ?_
        refine aw_iadd dX0_scaledBits_96 ?_
        refine aw_i2l dX0_scaledBits_97 ?_
        refine aw_lstore [(10, .long (Int32.toInt64 (((x3 - 3) + (63 - (sJ13_nlz (-x2)))) + 1023))), (8, .long ((-1 : Int64) <<< ((Int32.toInt64 63) &&& 63))), (7, .int 52), (6, .int (63 - (sJ13_nlz (-x2)))), (4, .long (-x2)), (0, .int x1), (1, .long x2), (3, .int x3)] dX0_scaledBits_98 (Nat.le_of_ble_eq_true rfl) rfl ?_
        refine aw_lload dX0_scaledBits_100 1 rfl ?_
        refine aw_lload dX0_scaledBits_102 0 rfl ?_
        refine aw_iload dX0_scaledBits_104 2 rfl ?_
        refine aw_lshl dX0_scaledBits_106 ?_
        refine aw_lor dX0_scaledBits_107 ?_
        refine aw_lload dX0_scaledBits_108 4 rfl ?_
        refine aw_iload dX0_scaledBits_110 2 rfl ?_
        refine aw_iload dX0_scaledBits_112 3 rfl ?_
        refine aw_isub dX0_scaledBits_114 ?_
        refine aw_lshl dX0_scaledBits_115 ?_
        refine aw_lconst (v := 1) dX0_scaledBits_116 (by decide) ?_
        refine aw_iload dX0_scaledBits_117 2 rfl ?_
        refine aw_lshl dX0_scaledBits_119 ?_
        refine aw_lsub dX0_scaledBits_120 ?_
        refine aw_lor dX0_scaledBits_121 ?_
        refine aw_lret dX0_scaledBits_122 rfl (Nat.zero_le _) (Nat.zero_le _) ?_
        exact ⟨congrArg (fun z => some (Value.long z)) (show sX0_scaledBits x1 x2 x3 = (((-1 : Int64) <<< ((Int32.toInt64 63) &&& 63)) ||| ((Int32.toInt64 (((x3 - 3) + (63 - (sJ13_nlz (-x2)))) + 1023)) <<< ((Int32.toInt64 52) &&& 63))) ||| (((-x2) <<< ((Int32.toInt64 (52 - (63 - (sJ13_nlz (-x2))))) &&& 63)) - ((1 : Int64) <<< ((Int32.toInt64 52) &&& 63))) by unfold sX0_scaledBits; rw [if_neg c1, if_neg c2, if_neg c8]).symm, rfl⟩
      · refine aw_bipush (v := 23) dX0_scaledBits_38 (by decide) ?_
        refine aw_goto 45 dX0_scaledBits_40 (by decide) ?_
        refine aw_istore [(7, .int 23), (6, .int (63 - (sJ13_nlz (-x2)))), (4, .long (-x2)), (0, .int x1), (1, .long x2), (3, .int x3)] dX0_scaledBits_45 (Nat.le_of_ble_eq_true rfl) rfl ?_
        refine aw_lload_n dX0_scaledBits_47 4 rfl ?_
        refine aw_lconst (v := 0) dX0_scaledBits_48 (by decide) ?_
        refine aw_lge 73 dX0_scaledBits_49 dX0_scaledBits_50 (by decide) (fun c12 => absurd c12 c2) (fun c12 => ?_)
        refine aw_ldc2 dX0_scaledBits_53 kc_X0_55 ?_
        refine aw_iload_n dX0_scaledBits_56 3 rfl ?_
        refine aw_bipush (v := 6) dX0_scaledBits_57 (by decide) ?_
        refine aw_icmp_ne 67 dX0_scaledBits_59 (by decide) (fun c13 => absurd c8 c13) (fun c13 => ?_)
        refine aw_bipush (v := 31) dX0_scaledBits_62 (by decide) ?_
        refine aw_goto 69 dX0_scaledBits_64 (by decide) ?_
        refine aw_lshl dX0_scaledBits_69 ?_
        refine aw_goto 74 dX0_scaledBits_70 (by decide) ?_
        refine aw_lstore [(8, .long ((-1 : Int64) <<< ((Int32.toInt64 31) &&& 63))), (7, .int 23), (6, .int (63 - (sJ13_nlz (-x2)))), (4, .long (-x2)), (0, .int x1), (1, .long x2), (3, .int x3)] dX0_scaledBits_74 (Nat.le_of_ble_eq_true rfl) rfl ?_
        refine aw_iload_n dX0_scaledBits_76 6 rfl ?_
        refine aw_iconst (v := 3) dX0_scaledBits_77 (by decide) ?_
        refine aw_isub dX0_scaledBits_78 ?_
        refine aw_iload dX0_scaledBits_79 2 rfl ?_
        refine aw_iadd dX0_scaledBits_81 ?_
        refine aw_iload_n dX0_scaledBits_82 4 rfl ?_
        refine aw_bipush (v := 6) dX0_scaledBits_83 (by decide) ?_
        refine aw_icmp_ne 93 dX0_scaledBits_85 (by decide) (fun c14 => absurd c13 c14) (fun c14 => ?_)
        refine aw_bipush (v := 127) dX0_scaledBits_88 (by decide) ?_
        refine aw_goto 96 dX0_scaledBits_90 (by decide) ?_
        refine aw_iadd dX0_scaledBits_96 ?_
        refine aw_i2l dX0_scaledBits_97 ?_
        refine aw_lstore [(10, .long (Int32.toInt64 (((x3 - 3) + (63 - (sJ13_nlz (-x2)))) + 127))), (8, .long ((-1 : Int64) <<< ((Int32.toInt64 31) &&& 63))), (7, .int 23), (6, .int (63 - (sJ13_nlz (-x2)))), (4, .long (-x2)), (0, .int x1), (1, .long x2), (3, .int x3)] dX0_scaledBits_98 (Nat.le_of_ble_eq_true rfl) rfl ?_
        refine aw_lload dX0_scaledBits_100 1 rfl ?_
        refine aw_lload dX0_scaledBits_102 0 rfl ?_
        refine aw_iload dX0_scaledBits_104 2 rfl ?_
        refine aw_lshl dX0_scaledBits_106 ?_
        refine aw_lor dX0_scaledBits_107 ?_
        refine aw_lload dX0_scaledBits_108 4 rfl ?_
        refine aw_iload dX0_scaledBits_110 2 rfl ?_
        refine aw_iload dX0_scaledBits_112 3 rfl ?_
        refine aw_isub dX0_scaledBits_114 ?_
        refine aw_lshl dX0_scaledBits_115 ?_
        refine aw_lconst (v := 1) dX0_scaledBits_116 (by decide) ?_
        refine aw_iload dX0_scaledBits_117 2 rfl ?_
        refine aw_lshl dX0_scaledBits_119 ?_
        refine aw_lsub dX0_scaledBits_120 ?_
        refine aw_lor dX0_scaledBits_121 ?_
        refine aw_lret dX0_scaledBits_122 rfl (Nat.zero_le _) (Nat.zero_le _) ?_
        exact ⟨congrArg (fun z => some (Value.long z)) (show sX0_scaledBits x1 x2 x3 = (((-1 : Int64) <<< ((Int32.toInt64 31) &&& 63)) ||| ((Int32.toInt64 (((x3 - 3) + (63 - (sJ13_nlz (-x2)))) + 127)) <<< ((Int32.toInt64 23) &&& 63))) ||| (((-x2) <<< ((Int32.toInt64 (23 - (63 - (sJ13_nlz (-x2))))) &&& 63)) - ((1 : Int64) <<< ((Int32.toInt64 23) &&& 63))) by unfold sX0_scaledBits; rw [if_neg c1, if_neg c2, if_pos c8]).symm, rfl⟩
  · refine aw_lconst (v := 0) dX0_scaledBits_6 (by decide) ?_
    refine aw_lret dX0_scaledBits_7 rfl (Nat.zero_le _) (Nat.zero_le _) ?_
    exact ⟨congrArg (fun z => some (Value.long z)) (show sX0_scaledBits x1 x2 x3 = (0 : Int64) by unfold sX0_scaledBits; rw [if_pos c1]).symm, rfl⟩
def sX0_oddPart (x1 : Int32) (x2 : Int64) : Int64 := (if x2 = (0 : Int64) then (0 : Int64) else (if x1 = 6 then (if (0 : Int64) ≤ x2 then ((x2 &&& (((1 : Int64) <<< ((Int32.toInt64 23) &&& 63)) - (1 : Int64))) ||| ((1 : Int64) <<< ((Int32.toInt64 23) &&& 63))) >>> ((Int32.toInt64 (sJ13_ntz ((x2 &&& (((1 : Int64) <<< ((Int32.toInt64 23) &&& 63)) - (1 : Int64))) ||| ((1 : Int64) <<< ((Int32.toInt64 23) &&& 63))))) &&& 63) else -(((x2 &&& (((1 : Int64) <<< ((Int32.toInt64 23) &&& 63)) - (1 : Int64))) ||| ((1 : Int64) <<< ((Int32.toInt64 23) &&& 63))) >>> ((Int32.toInt64 (sJ13_ntz ((x2 &&& (((1 : Int64) <<< ((Int32.toInt64 23) &&& 63)) - (1 : Int64))) ||| ((1 : Int64) <<< ((Int32.toInt64 23) &&& 63))))) &&& 63))) else (if (0 : Int64) ≤ x2 then ((x2 &&& (((1 : Int64) <<< ((Int32.toInt64 52) &&& 63)) - (1 : Int64))) ||| ((1 : Int64) <<< ((Int32.toInt64 52) &&& 63))) >>> ((Int32.toInt64 (sJ13_ntz ((x2 &&& (((1 : Int64) <<< ((Int32.toInt64 52) &&& 63)) - (1 : Int64))) ||| ((1 : Int64) <<< ((Int32.toInt64 52) &&& 63))))) &&& 63) else -(((x2 &&& (((1 : Int64) <<< ((Int32.toInt64 52) &&& 63)) - (1 : Int64))) ||| ((1 : Int64) <<< ((Int32.toInt64 52) &&& 63))) >>> ((Int32.toInt64 (sJ13_ntz ((x2 &&& (((1 : Int64) <<< ((Int32.toInt64 52) &&& 63)) - (1 : Int64))) ||| ((1 : Int64) <<< ((Int32.toInt64 52) &&& 63))))) &&& 63)))))
theorem sp_X0_oddPart {d : Nat} (hd : 2 ≤ d) {M : xM} (x1 : Int32) (x2 : Int64)  : Sp (fX0_oddPart d) [.int x1, .long x2] M (dt (some (.long (sX0_oddPart x1 x2))) (M)) := by
  refine Sp.of pn_X0 (Nat.le_of_ble_eq_true rfl) (fun h => Bool.noConfusion h) ?_
  refine aw_lload_n dX0_oddPart_0 1 rfl ?_
  refine aw_lconst (v := 0) dX0_oddPart_1 (by decide) ?_
  refine aw_lne 8 dX0_oddPart_2 dX0_oddPart_3 (by decide) (fun c1 => ?_) (fun c1 => ?_)
  · refine aw_lconst (v := 1) dX0_oddPart_8 (by decide) ?_
    refine aw_iload_n dX0_oddPart_9 0 rfl ?_
    refine aw_bipush (v := 6) dX0_oddPart_10 (by decide) ?_
    refine aw_icmp_ne 20 dX0_oddPart_12 (by decide) (fun c2 => ?_) (fun c2 => ?_)
    · refine aw_bipush (v := 52) dX0_oddPart_20 (by decide) ?_
      refine aw_lshl dX0_oddPart_22 ?_
      refine aw_lstore_n [(3, .long ((1 : Int64) <<< ((Int32.toInt64 52) &&& 63))), (0, .int x1), (1, .long x2)] dX0_oddPart_23 (Nat.le_of_ble_eq_true rfl) rfl ?_
      refine aw_lload_n dX0_oddPart_24 2 rfl ?_
      refine aw_lload_n dX0_oddPart_25 0 rfl ?_
      refine aw_lconst (v := 1) dX0_oddPart_26 (by decide) ?_
      refine aw_lsub dX0_oddPart_27 ?_
      refine aw_land dX0_oddPart_28 ?_
      refine aw_lload_n dX0_oddPart_29 0 rfl ?_
      refine aw_lor dX0_oddPart_30 ?_
      refine aw_lstore [(5, .long ((x2 &&& (((1 : Int64) <<< ((Int32.toInt64 52) &&& 63)) - (1 : Int64))) ||| ((1 : Int64) <<< ((Int32.toInt64 52) &&& 63)))), (3, .long ((1 : Int64) <<< ((Int32.toInt64 52) &&& 63))), (0, .int x1), (1, .long x2)] dX0_oddPart_31 (Nat.le_of_ble_eq_true rfl) rfl ?_
      refine aw_lload dX0_oddPart_33 0 rfl ?_
      refine aw_lload dX0_oddPart_35 0 rfl ?_
      refine aw_callSi [.long ((x2 &&& (((1 : Int64) <<< ((Int32.toInt64 52) &&& 63)) - (1 : Int64))) ||| ((1 : Int64) <<< ((Int32.toInt64 52) &&& 63)))] [.long ((x2 &&& (((1 : Int64) <<< ((Int32.toInt64 52) &&& 63)) - (1 : Int64))) ||| ((1 : Int64) <<< ((Int32.toInt64 52) &&& 63)))] (sp_J13_numberOfTrailingZeros_95d88 (d := d - 1) (by omega) ((x2 &&& (((1 : Int64) <<< ((Int32.toInt64 52) &&& 63)) - (1 : Int64))) ||| ((1 : Int64) <<< ((Int32.toInt64 52) &&& 63))) ) dX0_oddPart_37 ml_X0_67 sm_J13_numberOfTrailingZeros_95d88 rfl (dl1 (d := d) (by omega)) rfl rfl (Nat.le_of_ble_eq_true rfl) rfl rfl (Nat.zero_le _) (Nat.zero_le _) ?_
      refine aw_lshr dX0_oddPart_40 ?_
      refine aw_lstore [(7, .long (((x2 &&& (((1 : Int64) <<< ((Int32.toInt64 52) &&& 63)) - (1 : Int64))) ||| ((1 : Int64) <<< ((Int32.toInt64 52) &&& 63))) >>> ((Int32.toInt64 (sJ13_ntz ((x2 &&& (((1 : Int64) <<< ((Int32.toInt64 52) &&& 63)) - (1 : Int64))) ||| ((1 : Int64) <<< ((Int32.toInt64 52) &&& 63))))) &&& 63))), (5, .long ((x2 &&& (((1 : Int64) <<< ((Int32.toInt64 52) &&& 63)) - (1 : Int64))) ||| ((1 : Int64) <<< ((Int32.toInt64 52) &&& 63)))), (3, .long ((1 : Int64) <<< ((Int32.toInt64 52) &&& 63))), (0, .int x1), (1, .long x2)] dX0_oddPart_41 (Nat.le_of_ble_eq_true rfl) rfl ?_
      refine aw_lload_n dX0_oddPart_43 4 rfl ?_
      refine aw_lconst (v := 0) dX0_oddPart_44 (by decide) ?_
      refine aw_lge 55 dX0_oddPart_45 dX0_oddPart_46 (by decide) (fun c3 => ?_) (fun c3 => ?_)
      · refine aw_lload dX0_oddPart_55 0 rfl ?_
        refine aw_lret dX0_oddPart_57 rfl (Nat.zero_le _) (Nat.zero_le _) ?_
        exact ⟨congrArg (fun z => some (Value.long z)) (show sX0_oddPart x1 x2 = ((x2 &&& (((1 : Int64) <<< ((Int32.toInt64 52) &&& 63)) - (1 : Int64))) ||| ((1 : Int64) <<< ((Int32.toInt64 52) &&& 63))) >>> ((Int32.toInt64 (sJ13_ntz ((x2 &&& (((1 : Int64) <<< ((Int32.toInt64 52) &&& 63)) - (1 : Int64))) ||| ((1 : Int64) <<< ((Int32.toInt64 52) &&& 63))))) &&& 63) by unfold sX0_oddPart; rw [if_neg c1, if_neg c2, if_pos c3]).symm, rfl⟩
      · refine aw_lload dX0_oddPart_49 0 rfl ?_
        refine aw_lneg dX0_oddPart_51 ?_
        refine aw_goto 57 dX0_oddPart_52 (by decide) ?_
        refine aw_lret dX0_oddPart_57 rfl (Nat.zero_le _) (Nat.zero_le _) ?_
        exact ⟨congrArg (fun z => some (Value.long z)) (show sX0_oddPart x1 x2 = -(((x2 &&& (((1 : Int64) <<< ((Int32.toInt64 52) &&& 63)) - (1 : Int64))) ||| ((1 : Int64) <<< ((Int32.toInt64 52) &&& 63))) >>> ((Int32.toInt64 (sJ13_ntz ((x2 &&& (((1 : Int64) <<< ((Int32.toInt64 52) &&& 63)) - (1 : Int64))) ||| ((1 : Int64) <<< ((Int32.toInt64 52) &&& 63))))) &&& 63)) by unfold sX0_oddPart; rw [if_neg c1, if_neg c2, if_neg c3]).symm, rfl⟩
    · refine aw_bipush (v := 23) dX0_oddPart_15 (by decide) ?_
      refine aw_goto 22 dX0_oddPart_17 (by decide) ?_
      refine aw_lshl dX0_oddPart_22 ?_
      refine aw_lstore_n [(3, .long ((1 : Int64) <<< ((Int32.toInt64 23) &&& 63))), (0, .int x1), (1, .long x2)] dX0_oddPart_23 (Nat.le_of_ble_eq_true rfl) rfl ?_
      refine aw_lload_n dX0_oddPart_24 2 rfl ?_
      refine aw_lload_n dX0_oddPart_25 0 rfl ?_
      refine aw_lconst (v := 1) dX0_oddPart_26 (by decide) ?_
      refine aw_lsub dX0_oddPart_27 ?_
      refine aw_land dX0_oddPart_28 ?_
      refine aw_lload_n dX0_oddPart_29 0 rfl ?_
      refine aw_lor dX0_oddPart_30 ?_
      refine aw_lstore [(5, .long ((x2 &&& (((1 : Int64) <<< ((Int32.toInt64 23) &&& 63)) - (1 : Int64))) ||| ((1 : Int64) <<< ((Int32.toInt64 23) &&& 63)))), (3, .long ((1 : Int64) <<< ((Int32.toInt64 23) &&& 63))), (0, .int x1), (1, .long x2)] dX0_oddPart_31 (Nat.le_of_ble_eq_true rfl) rfl ?_
      refine aw_lload dX0_oddPart_33 0 rfl ?_
      refine aw_lload dX0_oddPart_35 0 rfl ?_
      refine aw_callSi [.long ((x2 &&& (((1 : Int64) <<< ((Int32.toInt64 23) &&& 63)) - (1 : Int64))) ||| ((1 : Int64) <<< ((Int32.toInt64 23) &&& 63)))] [.long ((x2 &&& (((1 : Int64) <<< ((Int32.toInt64 23) &&& 63)) - (1 : Int64))) ||| ((1 : Int64) <<< ((Int32.toInt64 23) &&& 63)))] (sp_J13_numberOfTrailingZeros_95d88 (d := d - 1) (by omega) ((x2 &&& (((1 : Int64) <<< ((Int32.toInt64 23) &&& 63)) - (1 : Int64))) ||| ((1 : Int64) <<< ((Int32.toInt64 23) &&& 63))) ) dX0_oddPart_37 ml_X0_67 sm_J13_numberOfTrailingZeros_95d88 rfl (dl1 (d := d) (by omega)) rfl rfl (Nat.le_of_ble_eq_true rfl) rfl rfl (Nat.zero_le _) (Nat.zero_le _) ?_
      refine aw_lshr dX0_oddPart_40 ?_
      refine aw_lstore [(7, .long (((x2 &&& (((1 : Int64) <<< ((Int32.toInt64 23) &&& 63)) - (1 : Int64))) ||| ((1 : Int64) <<< ((Int32.toInt64 23) &&& 63))) >>> ((Int32.toInt64 (sJ13_ntz ((x2 &&& (((1 : Int64) <<< ((Int32.toInt64 23) &&& 63)) - (1 : Int64))) ||| ((1 : Int64) <<< ((Int32.toInt64 23) &&& 63))))) &&& 63))), (5, .long ((x2 &&& (((1 : Int64) <<< ((Int32.toInt64 23) &&& 63)) - (1 : Int64))) ||| ((1 : Int64) <<< ((Int32.toInt64 23) &&& 63)))), (3, .long ((1 : Int64) <<< ((Int32.toInt64 23) &&& 63))), (0, .int x1), (1, .long x2)] dX0_oddPart_41 (Nat.le_of_ble_eq_true rfl) rfl ?_
      refine aw_lload_n dX0_oddPart_43 4 rfl ?_
      refine aw_lconst (v := 0) dX0_oddPart_44 (by decide) ?_
      refine aw_lge 55 dX0_oddPart_45 dX0_oddPart_46 (by decide) (fun c4 => ?_) (fun c4 => ?_)
      · refine aw_lload dX0_oddPart_55 0 rfl ?_
        refine aw_lret dX0_oddPart_57 rfl (Nat.zero_le _) (Nat.zero_le _) ?_
        exact ⟨congrArg (fun z => some (Value.long z)) (show sX0_oddPart x1 x2 = ((x2 &&& (((1 : Int64) <<< ((Int32.toInt64 23) &&& 63)) - (1 : Int64))) ||| ((1 : Int64) <<< ((Int32.toInt64 23) &&& 63))) >>> ((Int32.toInt64 (sJ13_ntz ((x2 &&& (((1 : Int64) <<< ((Int32.toInt64 23) &&& 63)) - (1 : Int64))) ||| ((1 : Int64) <<< ((Int32.toInt64 23) &&& 63))))) &&& 63) by unfold sX0_oddPart; rw [if_neg c1, if_pos c2, if_pos c4]).symm, rfl⟩
      · refine aw_lload dX0_oddPart_49 0 rfl ?_
        refine aw_lneg dX0_oddPart_51 ?_
        refine aw_goto 57 dX0_oddPart_52 (by decide) ?_
        refine aw_lret dX0_oddPart_57 rfl (Nat.zero_le _) (Nat.zero_le _) ?_
        exact ⟨congrArg (fun z => some (Value.long z)) (show sX0_oddPart x1 x2 = -(((x2 &&& (((1 : Int64) <<< ((Int32.toInt64 23) &&& 63)) - (1 : Int64))) ||| ((1 : Int64) <<< ((Int32.toInt64 23) &&& 63))) >>> ((Int32.toInt64 (sJ13_ntz ((x2 &&& (((1 : Int64) <<< ((Int32.toInt64 23) &&& 63)) - (1 : Int64))) ||| ((1 : Int64) <<< ((Int32.toInt64 23) &&& 63))))) &&& 63)) by unfold sX0_oddPart; rw [if_neg c1, if_pos c2, if_neg c4]).symm, rfl⟩
  · refine aw_lconst (v := 0) dX0_oddPart_6 (by decide) ?_
    refine aw_lret dX0_oddPart_7 rfl (Nat.zero_le _) (Nat.zero_le _) ?_
    exact ⟨congrArg (fun z => some (Value.long z)) (show sX0_oddPart x1 x2 = (0 : Int64) by unfold sX0_oddPart; rw [if_pos c1]).symm, rfl⟩
def sX0_powerPart (x1 : Int32) (x2 : Int64) : Int32 := (if x2 = (0 : Int64) then 0 else (if x1 = 6 then ((((Int64.toInt32 ((x2 >>> ((Int32.toInt64 23) &&& 63)) &&& (255 : Int64))) - 127) - 23) + 3) + (if 23 < sJ13_ntz x2 then 23 else sJ13_ntz x2) else ((((Int64.toInt32 ((x2 >>> ((Int32.toInt64 52) &&& 63)) &&& (2047 : Int64))) - 1023) - 52) + 3) + (if 52 < sJ13_ntz x2 then 52 else sJ13_ntz x2)))
theorem sp_X0_powerPart {d : Nat} (hd : 2 ≤ d) {M : xM} (x1 : Int32) (x2 : Int64)  : Sp (fX0_powerPart d) [.int x1, .long x2] M (dt (some (.int (sX0_powerPart x1 x2))) (M)) := by
  refine Sp.of pn_X0 (Nat.le_of_ble_eq_true rfl) (fun h => Bool.noConfusion h) ?_
  refine aw_lload_n dX0_powerPart_0 1 rfl ?_
  refine aw_lconst (v := 0) dX0_powerPart_1 (by decide) ?_
  refine aw_lne 8 dX0_powerPart_2 dX0_powerPart_3 (by decide) (fun c1 => ?_) (fun c1 => ?_)
  · refine aw_iload_n dX0_powerPart_8 0 rfl ?_
    refine aw_bipush (v := 6) dX0_powerPart_9 (by decide) ?_
    refine aw_icmp_ne 19 dX0_powerPart_11 (by decide) (fun c2 => ?_) (fun c2 => ?_)
    · refine aw_bipush (v := 52) dX0_powerPart_19 (by decide) ?_
      refine aw_istore_n [(3, .int 52), (0, .int x1), (1, .long x2)] dX0_powerPart_21 (Nat.le_of_ble_eq_true rfl) rfl ?_
      refine aw_iload_n dX0_powerPart_22 1 rfl ?_
      refine aw_bipush (v := 6) dX0_powerPart_23 (by decide) ?_
      refine aw_icmp_ne 42 dX0_powerPart_25 (by decide) (fun c3 => ?_) (fun c3 => absurd c3 c2)
      refine aw_lload_n dX0_powerPart_42 2 rfl ?_
      refine aw_iload_n dX0_powerPart_43 0 rfl ?_
      refine aw_lshr dX0_powerPart_44 ?_
      refine aw_ldc2 dX0_powerPart_45 kc_X0_72 ?_
      refine aw_land dX0_powerPart_48 ?_
      refine aw_l2i dX0_powerPart_49 ?_
      refine aw_sipush (v := 1023) dX0_powerPart_50 (by decide) ?_
      refine aw_isub dX0_powerPart_53 ?_
      refine aw_istore [(4, .int ((Int64.toInt32 ((x2 >>> ((Int32.toInt64 52) &&& 63)) &&& (2047 : Int64))) - 1023)), (3, .int 52), (0, .int x1), (1, .long x2)] dX0_powerPart_54 (Nat.le_of_ble_eq_true rfl) rfl ?_
      refine aw_iload dX0_powerPart_56 0 rfl ?_
      refine aw_iload_n dX0_powerPart_58 1 rfl ?_
      refine aw_isub dX0_powerPart_59 ?_
      refine aw_iconst (v := 3) dX0_powerPart_60 (by decide) ?_
      refine aw_iadd dX0_powerPart_61 ?_
      refine aw_lload_n dX0_powerPart_62 3 rfl ?_
      refine aw_callSi [.long x2] [.int ((((Int64.toInt32 ((x2 >>> ((Int32.toInt64 52) &&& 63)) &&& (2047 : Int64))) - 1023) - 52) + 3)] (sp_J13_numberOfTrailingZeros_95d88 (d := d - 1) (by omega) x2 ) dX0_powerPart_63 ml_X0_67 sm_J13_numberOfTrailingZeros_95d88 rfl (dl1 (d := d) (by omega)) rfl rfl (Nat.le_of_ble_eq_true rfl) rfl rfl (Nat.zero_le _) (Nat.zero_le _) ?_
      refine aw_iload_n dX0_powerPart_66 1 rfl ?_
      refine aw_mmin dX0_powerPart_67 mm_X0_74 mm_mins in_J9 mm_minc (show 1 ≤ d by omega) (Nat.le_of_ble_eq_true rfl) (Nat.zero_le _) (Nat.zero_le _) ?_
      refine aw_iadd dX0_powerPart_70 ?_
      refine aw_iret dX0_powerPart_71 rfl (Nat.zero_le _) (Nat.zero_le _) ?_
      exact ⟨congrArg (fun z => some (Value.int z)) (show sX0_powerPart x1 x2 = ((((Int64.toInt32 ((x2 >>> ((Int32.toInt64 52) &&& 63)) &&& (2047 : Int64))) - 1023) - 52) + 3) + (if 52 < sJ13_ntz x2 then 52 else sJ13_ntz x2) by unfold sX0_powerPart; rw [if_neg c1, if_neg c2]).symm, rfl⟩
    · refine aw_bipush (v := 23) dX0_powerPart_14 (by decide) ?_
      refine aw_goto 21 dX0_powerPart_16 (by decide) ?_
      refine aw_istore_n [(3, .int 23), (0, .int x1), (1, .long x2)] dX0_powerPart_21 (Nat.le_of_ble_eq_true rfl) rfl ?_
      refine aw_iload_n dX0_powerPart_22 1 rfl ?_
      refine aw_bipush (v := 6) dX0_powerPart_23 (by decide) ?_
      refine aw_icmp_ne 42 dX0_powerPart_25 (by decide) (fun c4 => absurd c2 c4) (fun c4 => ?_)
      refine aw_lload_n dX0_powerPart_28 2 rfl ?_
      refine aw_iload_n dX0_powerPart_29 0 rfl ?_
      refine aw_lshr dX0_powerPart_30 ?_
      refine aw_ldc2 dX0_powerPart_31 kc_X0_70 ?_
      refine aw_land dX0_powerPart_34 ?_
      refine aw_l2i dX0_powerPart_35 ?_
      refine aw_bipush (v := 127) dX0_powerPart_36 (by decide) ?_
      refine aw_isub dX0_powerPart_38 ?_
      refine aw_goto 54 dX0_powerPart_39 (by decide) ?_
      refine aw_istore [(4, .int ((Int64.toInt32 ((x2 >>> ((Int32.toInt64 23) &&& 63)) &&& (255 : Int64))) - 127)), (3, .int 23), (0, .int x1), (1, .long x2)] dX0_powerPart_54 (Nat.le_of_ble_eq_true rfl) rfl ?_
      refine aw_iload dX0_powerPart_56 0 rfl ?_
      refine aw_iload_n dX0_powerPart_58 1 rfl ?_
      refine aw_isub dX0_powerPart_59 ?_
      refine aw_iconst (v := 3) dX0_powerPart_60 (by decide) ?_
      refine aw_iadd dX0_powerPart_61 ?_
      refine aw_lload_n dX0_powerPart_62 3 rfl ?_
      refine aw_callSi [.long x2] [.int ((((Int64.toInt32 ((x2 >>> ((Int32.toInt64 23) &&& 63)) &&& (255 : Int64))) - 127) - 23) + 3)] (sp_J13_numberOfTrailingZeros_95d88 (d := d - 1) (by omega) x2 ) dX0_powerPart_63 ml_X0_67 sm_J13_numberOfTrailingZeros_95d88 rfl (dl1 (d := d) (by omega)) rfl rfl (Nat.le_of_ble_eq_true rfl) rfl rfl (Nat.zero_le _) (Nat.zero_le _) ?_
      refine aw_iload_n dX0_powerPart_66 1 rfl ?_
      refine aw_mmin dX0_powerPart_67 mm_X0_74 mm_mins in_J9 mm_minc (show 1 ≤ d by omega) (Nat.le_of_ble_eq_true rfl) (Nat.zero_le _) (Nat.zero_le _) ?_
      refine aw_iadd dX0_powerPart_70 ?_
      refine aw_iret dX0_powerPart_71 rfl (Nat.zero_le _) (Nat.zero_le _) ?_
      exact ⟨congrArg (fun z => some (Value.int z)) (show sX0_powerPart x1 x2 = ((((Int64.toInt32 ((x2 >>> ((Int32.toInt64 23) &&& 63)) &&& (255 : Int64))) - 127) - 23) + 3) + (if 23 < sJ13_ntz x2 then 23 else sJ13_ntz x2) by unfold sX0_powerPart; rw [if_neg c1, if_pos c2]).symm, rfl⟩
  · refine aw_iconst (v := 0) dX0_powerPart_6 (by decide) ?_
    refine aw_iret dX0_powerPart_7 rfl (Nat.zero_le _) (Nat.zero_le _) ?_
    exact ⟨congrArg (fun z => some (Value.int z)) (show sX0_powerPart x1 x2 = 0 by unfold sX0_powerPart; rw [if_pos c1]).symm, rfl⟩
