-- MAKE, COPYOF: the reference
theorem sp_X6_beginsI {d : Nat} (hd : 0 ≤ d) {M : xM} (x1 x2 x3 : Int32) (hT : TR M) (h : vp_in x1 24) : Sp (fX6_begins d) [.ref 0, .int x1, .int x2, .int x3] M (dt none (begM M x1.toNatClampNeg x2 x3)) := by
  obtain ⟨e1, b1⟩ := nI_cl h
  have q := sp_X6_begins hd x1.toNatClampNeg x2 x3 hT b1
  rw [← e1] at q
  exact q
theorem sp_X6_copiesI {d : Nat} (hd : 0 ≤ d) {M : xM} (x1 x2 : Int32) (z : Nat) (hT : TR M) (h1 : vp_in x1 24) (h2 : vp_in x2 24) (hne : x1.toNatClampNeg ≠ x2.toNatClampNeg) (hz : mI M 2 x1.toNatClampNeg = nI z) (hz2 : z ≤ 12) : Sp (fX6_copies d) [.ref 0, .int x1, .int x2] M (dt none (copM M x1.toNatClampNeg x2.toNatClampNeg z)) := by
  obtain ⟨e1, b1⟩ := nI_cl h1
  obtain ⟨e2, b2⟩ := nI_cl h2
  have q := sp_X6_copies hd x1.toNatClampNeg x2.toNatClampNeg z hT b1 b2 hne hz hz2
  rw [← e1, ← e2] at q
  exact q
def sX6_make (M : xM) (x1 : Int32) (x2 : Int64) : Int32 := (if (bz (sX6_isIn (Int32.toInt64 x1) 0 13)) = 0 then (if x1 = 14 then (if (bz (sX6_isIn x2 0 5)) = 0 then (if x1 = 15 then (if (bz (wrd x2)) = 0 then -1 else (if 0 ≤ (sX6_free M) then (if 14 ≤ x1 then sX6_free M else sX6_free M) else -3)) else -1) else (if 0 ≤ (sX6_free M) then (if 14 ≤ x1 then sX6_free M else sX6_free M) else -3)) else (if x1 = 15 then (if (bz (wrd x2)) = 0 then -1 else (if 0 ≤ (sX6_free M) then (if 14 ≤ x1 then sX6_free M else sX6_free M) else -3)) else -1)) else (if (bz (sX6_isIn x2 0 12)) = 0 then (if x1 = 14 then (if (bz (sX6_isIn x2 0 5)) = 0 then (if x1 = 15 then (if (bz (wrd x2)) = 0 then -1 else (if 0 ≤ (sX6_free M) then (if 14 ≤ x1 then sX6_free M else sX6_free M) else -3)) else -1) else (if 0 ≤ (sX6_free M) then (if 14 ≤ x1 then sX6_free M else sX6_free M) else -3)) else (if x1 = 15 then (if (bz (wrd x2)) = 0 then -1 else (if 0 ≤ (sX6_free M) then (if 14 ≤ x1 then sX6_free M else sX6_free M) else -3)) else -1)) else (if 0 ≤ (sX6_free M) then (if 14 ≤ x1 then sX6_free M else sX6_free M) else -3)))
def tX6_make (M : xM) (x1 : Int32) (x2 : Int64) : xM := (if (bz (sX6_isIn (Int32.toInt64 x1) 0 13)) = 0 then (if x1 = 14 then (if (bz (sX6_isIn x2 0 5)) = 0 then (if x1 = 15 then (if (bz (wrd x2)) = 0 then M else (if 0 ≤ (sX6_free M) then (if 14 ≤ x1 then (stL (begM M (sX6_free M).toNatClampNeg x1 0) 3 ((sX6_free M).toNatClampNeg) x2) else (stL (begM M (sX6_free M).toNatClampNeg x1 (Int64.toInt32 x2)) 3 ((sX6_free M).toNatClampNeg) 0)) else M)) else M) else (if 0 ≤ (sX6_free M) then (if 14 ≤ x1 then (stL (begM M (sX6_free M).toNatClampNeg x1 0) 3 ((sX6_free M).toNatClampNeg) x2) else (stL (begM M (sX6_free M).toNatClampNeg x1 (Int64.toInt32 x2)) 3 ((sX6_free M).toNatClampNeg) 0)) else M)) else (if x1 = 15 then (if (bz (wrd x2)) = 0 then M else (if 0 ≤ (sX6_free M) then (if 14 ≤ x1 then (stL (begM M (sX6_free M).toNatClampNeg x1 0) 3 ((sX6_free M).toNatClampNeg) x2) else (stL (begM M (sX6_free M).toNatClampNeg x1 (Int64.toInt32 x2)) 3 ((sX6_free M).toNatClampNeg) 0)) else M)) else M)) else (if (bz (sX6_isIn x2 0 12)) = 0 then (if x1 = 14 then (if (bz (sX6_isIn x2 0 5)) = 0 then (if x1 = 15 then (if (bz (wrd x2)) = 0 then M else (if 0 ≤ (sX6_free M) then (if 14 ≤ x1 then (stL (begM M (sX6_free M).toNatClampNeg x1 0) 3 ((sX6_free M).toNatClampNeg) x2) else (stL (begM M (sX6_free M).toNatClampNeg x1 (Int64.toInt32 x2)) 3 ((sX6_free M).toNatClampNeg) 0)) else M)) else M) else (if 0 ≤ (sX6_free M) then (if 14 ≤ x1 then (stL (begM M (sX6_free M).toNatClampNeg x1 0) 3 ((sX6_free M).toNatClampNeg) x2) else (stL (begM M (sX6_free M).toNatClampNeg x1 (Int64.toInt32 x2)) 3 ((sX6_free M).toNatClampNeg) 0)) else M)) else (if x1 = 15 then (if (bz (wrd x2)) = 0 then M else (if 0 ≤ (sX6_free M) then (if 14 ≤ x1 then (stL (begM M (sX6_free M).toNatClampNeg x1 0) 3 ((sX6_free M).toNatClampNeg) x2) else (stL (begM M (sX6_free M).toNatClampNeg x1 (Int64.toInt32 x2)) 3 ((sX6_free M).toNatClampNeg) 0)) else M)) else M)) else (if 0 ≤ (sX6_free M) then (if 14 ≤ x1 then (stL (begM M (sX6_free M).toNatClampNeg x1 0) 3 ((sX6_free M).toNatClampNeg) x2) else (stL (begM M (sX6_free M).toNatClampNeg x1 (Int64.toInt32 x2)) 3 ((sX6_free M).toNatClampNeg) 0)) else M)))
theorem sT_X6_make (M : xM) (x1 : Int32) (x2 : Int64) : sT M (tX6_make M x1 x2) := (sT.ite (sT.ite (sT.ite (sT.ite (sT.ite (sT.rf M) (sT.ite (sT.ite (((sT.rf M).tr (sT_X6_begins M (sX6_free M).toNatClampNeg x1 0)).tr (sT.L _ _ _ _)) (((sT.rf M).tr (sT_X6_begins M (sX6_free M).toNatClampNeg x1 (Int64.toInt32 x2))).tr (sT.L _ _ _ _))) (sT.rf M))) (sT.rf M)) (sT.ite (sT.ite (((sT.rf M).tr (sT_X6_begins M (sX6_free M).toNatClampNeg x1 0)).tr (sT.L _ _ _ _)) (((sT.rf M).tr (sT_X6_begins M (sX6_free M).toNatClampNeg x1 (Int64.toInt32 x2))).tr (sT.L _ _ _ _))) (sT.rf M))) (sT.ite (sT.ite (sT.rf M) (sT.ite (sT.ite (((sT.rf M).tr (sT_X6_begins M (sX6_free M).toNatClampNeg x1 0)).tr (sT.L _ _ _ _)) (((sT.rf M).tr (sT_X6_begins M (sX6_free M).toNatClampNeg x1 (Int64.toInt32 x2))).tr (sT.L _ _ _ _))) (sT.rf M))) (sT.rf M))) (sT.ite (sT.ite (sT.ite (sT.ite (sT.ite (sT.rf M) (sT.ite (sT.ite (((sT.rf M).tr (sT_X6_begins M (sX6_free M).toNatClampNeg x1 0)).tr (sT.L _ _ _ _)) (((sT.rf M).tr (sT_X6_begins M (sX6_free M).toNatClampNeg x1 (Int64.toInt32 x2))).tr (sT.L _ _ _ _))) (sT.rf M))) (sT.rf M)) (sT.ite (sT.ite (((sT.rf M).tr (sT_X6_begins M (sX6_free M).toNatClampNeg x1 0)).tr (sT.L _ _ _ _)) (((sT.rf M).tr (sT_X6_begins M (sX6_free M).toNatClampNeg x1 (Int64.toInt32 x2))).tr (sT.L _ _ _ _))) (sT.rf M))) (sT.ite (sT.ite (sT.rf M) (sT.ite (sT.ite (((sT.rf M).tr (sT_X6_begins M (sX6_free M).toNatClampNeg x1 0)).tr (sT.L _ _ _ _)) (((sT.rf M).tr (sT_X6_begins M (sX6_free M).toNatClampNeg x1 (Int64.toInt32 x2))).tr (sT.L _ _ _ _))) (sT.rf M))) (sT.rf M))) (sT.ite (sT.ite (((sT.rf M).tr (sT_X6_begins M (sX6_free M).toNatClampNeg x1 0)).tr (sT.L _ _ _ _)) (((sT.rf M).tr (sT_X6_begins M (sX6_free M).toNatClampNeg x1 (Int64.toInt32 x2))).tr (sT.L _ _ _ _))) (sT.rf M))))
theorem sp_X6_make {d : Nat} (hd : 1 ≤ d) {M : xM} (x1 : Int32) (x2 : Int64) (hT : TR M)  : Sp (fX6_make d) [.ref 0, .int x1, .long x2] M (dt (some (.int (sX6_make M x1 x2))) (tX6_make M x1 x2)) := by
  refine Sp.of pn_X6 (Nat.le_of_ble_eq_true rfl) (fun h => Bool.noConfusion h) ?_
  refine aw_iload_n dX6_make_0 1 rfl ?_
  refine aw_i2l dX6_make_1 ?_
  refine aw_lconst (v := 0) dX6_make_2 (by decide) ?_
  refine aw_ldc2 dX6_make_3 kc_X6_141 ?_
  refine aw_callSi [.long (Int32.toInt64 x1), .long 0, .long 13] [] (sp_X6_isIn (d := d - 1) (by omega) (Int32.toInt64 x1) 0 13 ) dX6_make_6 ml_X6_73 sm_X6_isIn rfl (dl1 (d := d) (by omega)) rfl rfl (Nat.le_of_ble_eq_true rfl) rfl rfl (Nat.zero_le _) (Nat.zero_le _) ?_
  refine aw_if_eq 23 dX6_make_9 (by decide) (fun c1 => ?_) (fun c1 => ?_)
  · refine aw_iload_n dX6_make_23 1 rfl ?_
    refine aw_bipush (v := 14) dX6_make_24 (by decide) ?_
    refine aw_icmp_ne 40 dX6_make_26 (by decide) (fun c2 => ?_) (fun c2 => ?_)
    · refine aw_iload_n dX6_make_40 1 rfl ?_
      refine aw_bipush (v := 15) dX6_make_41 (by decide) ?_
      refine aw_icmp_ne 57 dX6_make_43 (by decide) (fun c3 => ?_) (fun c3 => ?_)
      · refine aw_iconst (v := 0) dX6_make_57 (by decide) ?_
        refine aw_istore [(4, .int 0), (0, .ref 0), (1, .int x1), (2, .long x2)] dX6_make_58 (Nat.le_of_ble_eq_true rfl) rfl ?_
        refine aw_iload dX6_make_60 0 rfl ?_
        refine aw_if_ne 67 dX6_make_62 (by decide) (fun c4 => absurd rfl c4) (fun c4 => ?_)
        refine aw_iconst (v := -1) dX6_make_65 (by decide) ?_
        refine aw_iret dX6_make_66 rfl (Nat.zero_le _) (Nat.zero_le _) ?_
        exact ⟨congrArg (fun z => some (Value.int z)) (show sX6_make M x1 x2 = -1 by unfold sX6_make; rw [if_pos c1, if_neg c2, if_neg c3]).symm, (show tX6_make M x1 x2 = M by unfold tX6_make; rw [if_pos c1, if_neg c2, if_neg c3]).symm⟩
      · refine aw_lload_n dX6_make_46 2 rfl ?_
        refine aw_callSi [.long x2] [] (sp_X6_isWord (d := d - 1) (by omega) x2 ) dX6_make_47 ml_X6_147 sm_X6_isWord rfl (dl1 (d := d) (by omega)) rfl rfl (Nat.le_of_ble_eq_true rfl) rfl rfl (Nat.zero_le _) (Nat.zero_le _) ?_
        refine aw_if_eq 57 dX6_make_50 (by decide) (fun c5 => ?_) (fun c5 => ?_)
        · refine aw_iconst (v := 0) dX6_make_57 (by decide) ?_
          refine aw_istore [(4, .int 0), (0, .ref 0), (1, .int x1), (2, .long x2)] dX6_make_58 (Nat.le_of_ble_eq_true rfl) rfl ?_
          refine aw_iload dX6_make_60 0 rfl ?_
          refine aw_if_ne 67 dX6_make_62 (by decide) (fun c6 => absurd rfl c6) (fun c6 => ?_)
          refine aw_iconst (v := -1) dX6_make_65 (by decide) ?_
          refine aw_iret dX6_make_66 rfl (Nat.zero_le _) (Nat.zero_le _) ?_
          exact ⟨congrArg (fun z => some (Value.int z)) (show sX6_make M x1 x2 = -1 by unfold sX6_make; rw [if_pos c1, if_neg c2, if_pos c3, if_pos c5]).symm, (show tX6_make M x1 x2 = M by unfold tX6_make; rw [if_pos c1, if_neg c2, if_pos c3, if_pos c5]).symm⟩
        · refine aw_iconst (v := 1) dX6_make_53 (by decide) ?_
          refine aw_goto 58 dX6_make_54 (by decide) ?_
          refine aw_istore [(4, .int 1), (0, .ref 0), (1, .int x1), (2, .long x2)] dX6_make_58 (Nat.le_of_ble_eq_true rfl) rfl ?_
          refine aw_iload dX6_make_60 0 rfl ?_
          refine aw_if_ne 67 dX6_make_62 (by decide) (fun c7 => ?_) (fun c7 => absurd c7 (by decide))
          refine aw_aload_n dX6_make_67 1 rfl ?_
          refine aw_callVi [] [] (sp_X6_free (d := d - 1) (by omega)  hT) dX6_make_68 ml_X6_151 im_X6_free (hT.s 0 (by decide)) (hT.n 0 (by decide)) rfl rfl (dl1 (d := d) (by omega)) rfl rfl (Nat.le_of_ble_eq_true rfl) rfl rfl (Nat.zero_le _) (Nat.zero_le _) ?_
          refine aw_istore [(5, .int (sX6_free M)), (4, .int 1), (0, .ref 0), (1, .int x1), (2, .long x2)] dX6_make_71 (Nat.le_of_ble_eq_true rfl) rfl ?_
          refine aw_iload dX6_make_73 0 rfl ?_
          refine aw_if_ge 81 dX6_make_75 (by decide) (fun c8 => ?_) (fun c8 => ?_)
          · refine aw_aload_n dX6_make_81 2 rfl ?_
            refine aw_iload dX6_make_82 0 rfl ?_
            refine aw_iload_n dX6_make_84 3 rfl ?_
            refine aw_iload_n dX6_make_85 3 rfl ?_
            refine aw_bipush (v := 14) dX6_make_86 (by decide) ?_
            refine aw_icmp_ge 96 dX6_make_88 (by decide) (fun c9 => ?_) (fun c9 => ?_)
            · refine aw_iconst (v := 0) dX6_make_96 (by decide) ?_
              refine aw_callVv [.int (sX6_free M), .int x1, .int 0] [] (sp_X6_beginsI (d := d - 1) (by omega) (sX6_free M) x1 0 hT (vp_up (free_vp c8) (by decide))) dX6_make_97 ml_X6_155 im_X6_begins (hT.s 0 (by decide)) (hT.n 0 (by decide)) rfl rfl (dl1 (d := d) (by omega)) rfl rfl (Nat.le_of_ble_eq_true rfl) rfl rfl (Nat.zero_le _) (Nat.zero_le _) ?_
              refine aw_aload_n dX6_make_100 2 rfl ?_
              refine aw_getR (b := 3) dX6_make_101 fl_X6_16 rfl (((sT_X6_begins M (sX6_free M).toNatClampNeg x1 0).TR hT).s 0 (by decide)) (((sT_X6_begins M (sX6_free M).toNatClampNeg x1 0).TR hT).n 0 (by decide)) (((sT_X6_begins M (sX6_free M).toNatClampNeg x1 0).TR hT).r 2) ?_
              refine aw_iload dX6_make_104 0 rfl ?_
              refine aw_iload_n dX6_make_106 3 rfl ?_
              refine aw_bipush (v := 14) dX6_make_107 (by decide) ?_
              refine aw_icmp_ge 116 dX6_make_109 (by decide) (fun c10 => ?_) (fun c10 => absurd c9 c10)
              refine aw_lload_n dX6_make_116 4 rfl ?_
              refine aw_last dX6_make_117 (((sT_X6_begins M (sX6_free M).toNatClampNeg x1 0).TR hT).s 3 (by decide)) (((sT_X6_begins M (sX6_free M).toNatClampNeg x1 0).TR hT).n 3 (by decide)) (vp_up (free_vp c8) (by decide)) ?_
              refine aw_iload dX6_make_118 0 rfl ?_
              refine aw_iret dX6_make_120 rfl (Nat.zero_le _) (Nat.zero_le _) ?_
              exact ⟨congrArg (fun z => some (Value.int z)) (show sX6_make M x1 x2 = sX6_free M by unfold sX6_make; rw [if_pos c1, if_neg c2, if_pos c3, if_neg c5, if_pos c8, if_pos c9]).symm, (show tX6_make M x1 x2 = (stL (begM M (sX6_free M).toNatClampNeg x1 0) 3 ((sX6_free M).toNatClampNeg) x2) by unfold tX6_make; rw [if_pos c1, if_neg c2, if_pos c3, if_neg c5, if_pos c8, if_pos c9]).symm⟩
            · refine aw_lload_n dX6_make_91 4 rfl ?_
              refine aw_l2i dX6_make_92 ?_
              refine aw_goto 97 dX6_make_93 (by decide) ?_
              refine aw_callVv [.int (sX6_free M), .int x1, .int (Int64.toInt32 x2)] [] (sp_X6_beginsI (d := d - 1) (by omega) (sX6_free M) x1 (Int64.toInt32 x2) hT (vp_up (free_vp c8) (by decide))) dX6_make_97 ml_X6_155 im_X6_begins (hT.s 0 (by decide)) (hT.n 0 (by decide)) rfl rfl (dl1 (d := d) (by omega)) rfl rfl (Nat.le_of_ble_eq_true rfl) rfl rfl (Nat.zero_le _) (Nat.zero_le _) ?_
              refine aw_aload_n dX6_make_100 2 rfl ?_
              refine aw_getR (b := 3) dX6_make_101 fl_X6_16 rfl (((sT_X6_begins M (sX6_free M).toNatClampNeg x1 (Int64.toInt32 x2)).TR hT).s 0 (by decide)) (((sT_X6_begins M (sX6_free M).toNatClampNeg x1 (Int64.toInt32 x2)).TR hT).n 0 (by decide)) (((sT_X6_begins M (sX6_free M).toNatClampNeg x1 (Int64.toInt32 x2)).TR hT).r 2) ?_
              refine aw_iload dX6_make_104 0 rfl ?_
              refine aw_iload_n dX6_make_106 3 rfl ?_
              refine aw_bipush (v := 14) dX6_make_107 (by decide) ?_
              refine aw_icmp_ge 116 dX6_make_109 (by decide) (fun c11 => absurd c11 c9) (fun c11 => ?_)
              refine aw_lconst (v := 0) dX6_make_112 (by decide) ?_
              refine aw_goto 117 dX6_make_113 (by decide) ?_
              refine aw_last dX6_make_117 (((sT_X6_begins M (sX6_free M).toNatClampNeg x1 (Int64.toInt32 x2)).TR hT).s 3 (by decide)) (((sT_X6_begins M (sX6_free M).toNatClampNeg x1 (Int64.toInt32 x2)).TR hT).n 3 (by decide)) (vp_up (free_vp c8) (by decide)) ?_
              refine aw_iload dX6_make_118 0 rfl ?_
              refine aw_iret dX6_make_120 rfl (Nat.zero_le _) (Nat.zero_le _) ?_
              exact ⟨congrArg (fun z => some (Value.int z)) (show sX6_make M x1 x2 = sX6_free M by unfold sX6_make; rw [if_pos c1, if_neg c2, if_pos c3, if_neg c5, if_pos c8, if_neg c9]).symm, (show tX6_make M x1 x2 = (stL (begM M (sX6_free M).toNatClampNeg x1 (Int64.toInt32 x2)) 3 ((sX6_free M).toNatClampNeg) 0) by unfold tX6_make; rw [if_pos c1, if_neg c2, if_pos c3, if_neg c5, if_pos c8, if_neg c9]).symm⟩
          · refine aw_bipush (v := -3) dX6_make_78 (by decide) ?_
            refine aw_iret dX6_make_80 rfl (Nat.zero_le _) (Nat.zero_le _) ?_
            exact ⟨congrArg (fun z => some (Value.int z)) (show sX6_make M x1 x2 = -3 by unfold sX6_make; rw [if_pos c1, if_neg c2, if_pos c3, if_neg c5, if_neg c8]).symm, (show tX6_make M x1 x2 = M by unfold tX6_make; rw [if_pos c1, if_neg c2, if_pos c3, if_neg c5, if_neg c8]).symm⟩
    · refine aw_lload_n dX6_make_29 2 rfl ?_
      refine aw_lconst (v := 0) dX6_make_30 (by decide) ?_
      refine aw_ldc2 dX6_make_31 kc_X6_145 ?_
      refine aw_callSi [.long x2, .long 0, .long 5] [] (sp_X6_isIn (d := d - 1) (by omega) x2 0 5 ) dX6_make_34 ml_X6_73 sm_X6_isIn rfl (dl1 (d := d) (by omega)) rfl rfl (Nat.le_of_ble_eq_true rfl) rfl rfl (Nat.zero_le _) (Nat.zero_le _) ?_
      refine aw_if_ne 53 dX6_make_37 (by decide) (fun c12 => ?_) (fun c12 => ?_)
      · refine aw_iconst (v := 1) dX6_make_53 (by decide) ?_
        refine aw_goto 58 dX6_make_54 (by decide) ?_
        refine aw_istore [(4, .int 1), (0, .ref 0), (1, .int x1), (2, .long x2)] dX6_make_58 (Nat.le_of_ble_eq_true rfl) rfl ?_
        refine aw_iload dX6_make_60 0 rfl ?_
        refine aw_if_ne 67 dX6_make_62 (by decide) (fun c13 => ?_) (fun c13 => absurd c13 (by decide))
        refine aw_aload_n dX6_make_67 1 rfl ?_
        refine aw_callVi [] [] (sp_X6_free (d := d - 1) (by omega)  hT) dX6_make_68 ml_X6_151 im_X6_free (hT.s 0 (by decide)) (hT.n 0 (by decide)) rfl rfl (dl1 (d := d) (by omega)) rfl rfl (Nat.le_of_ble_eq_true rfl) rfl rfl (Nat.zero_le _) (Nat.zero_le _) ?_
        refine aw_istore [(5, .int (sX6_free M)), (4, .int 1), (0, .ref 0), (1, .int x1), (2, .long x2)] dX6_make_71 (Nat.le_of_ble_eq_true rfl) rfl ?_
        refine aw_iload dX6_make_73 0 rfl ?_
        refine aw_if_ge 81 dX6_make_75 (by decide) (fun c14 => ?_) (fun c14 => ?_)
        · refine aw_aload_n dX6_make_81 2 rfl ?_
          refine aw_iload dX6_make_82 0 rfl ?_
          refine aw_iload_n dX6_make_84 3 rfl ?_
          refine aw_iload_n dX6_make_85 3 rfl ?_
          refine aw_bipush (v := 14) dX6_make_86 (by decide) ?_
          refine aw_icmp_ge 96 dX6_make_88 (by decide) (fun c15 => ?_) (fun c15 => ?_)
          · refine aw_iconst (v := 0) dX6_make_96 (by decide) ?_
            refine aw_callVv [.int (sX6_free M), .int x1, .int 0] [] (sp_X6_beginsI (d := d - 1) (by omega) (sX6_free M) x1 0 hT (vp_up (free_vp c14) (by decide))) dX6_make_97 ml_X6_155 im_X6_begins (hT.s 0 (by decide)) (hT.n 0 (by decide)) rfl rfl (dl1 (d := d) (by omega)) rfl rfl (Nat.le_of_ble_eq_true rfl) rfl rfl (Nat.zero_le _) (Nat.zero_le _) ?_
            refine aw_aload_n dX6_make_100 2 rfl ?_
            refine aw_getR (b := 3) dX6_make_101 fl_X6_16 rfl (((sT_X6_begins M (sX6_free M).toNatClampNeg x1 0).TR hT).s 0 (by decide)) (((sT_X6_begins M (sX6_free M).toNatClampNeg x1 0).TR hT).n 0 (by decide)) (((sT_X6_begins M (sX6_free M).toNatClampNeg x1 0).TR hT).r 2) ?_
            refine aw_iload dX6_make_104 0 rfl ?_
            refine aw_iload_n dX6_make_106 3 rfl ?_
            refine aw_bipush (v := 14) dX6_make_107 (by decide) ?_
            refine aw_icmp_ge 116 dX6_make_109 (by decide) (fun c16 => ?_) (fun c16 => absurd c15 c16)
            refine aw_lload_n dX6_make_116 4 rfl ?_
            refine aw_last dX6_make_117 (((sT_X6_begins M (sX6_free M).toNatClampNeg x1 0).TR hT).s 3 (by decide)) (((sT_X6_begins M (sX6_free M).toNatClampNeg x1 0).TR hT).n 3 (by decide)) (vp_up (free_vp c14) (by decide)) ?_
            refine aw_iload dX6_make_118 0 rfl ?_
            refine aw_iret dX6_make_120 rfl (Nat.zero_le _) (Nat.zero_le _) ?_
            exact ⟨congrArg (fun z => some (Value.int z)) (show sX6_make M x1 x2 = sX6_free M by unfold sX6_make; rw [if_pos c1, if_pos c2, if_neg c12, if_pos c14, if_pos c15]).symm, (show tX6_make M x1 x2 = (stL (begM M (sX6_free M).toNatClampNeg x1 0) 3 ((sX6_free M).toNatClampNeg) x2) by unfold tX6_make; rw [if_pos c1, if_pos c2, if_neg c12, if_pos c14, if_pos c15]).symm⟩
          · refine aw_lload_n dX6_make_91 4 rfl ?_
            refine aw_l2i dX6_make_92 ?_
            refine aw_goto 97 dX6_make_93 (by decide) ?_
            refine aw_callVv [.int (sX6_free M), .int x1, .int (Int64.toInt32 x2)] [] (sp_X6_beginsI (d := d - 1) (by omega) (sX6_free M) x1 (Int64.toInt32 x2) hT (vp_up (free_vp c14) (by decide))) dX6_make_97 ml_X6_155 im_X6_begins (hT.s 0 (by decide)) (hT.n 0 (by decide)) rfl rfl (dl1 (d := d) (by omega)) rfl rfl (Nat.le_of_ble_eq_true rfl) rfl rfl (Nat.zero_le _) (Nat.zero_le _) ?_
            refine aw_aload_n dX6_make_100 2 rfl ?_
            refine aw_getR (b := 3) dX6_make_101 fl_X6_16 rfl (((sT_X6_begins M (sX6_free M).toNatClampNeg x1 (Int64.toInt32 x2)).TR hT).s 0 (by decide)) (((sT_X6_begins M (sX6_free M).toNatClampNeg x1 (Int64.toInt32 x2)).TR hT).n 0 (by decide)) (((sT_X6_begins M (sX6_free M).toNatClampNeg x1 (Int64.toInt32 x2)).TR hT).r 2) ?_
            refine aw_iload dX6_make_104 0 rfl ?_
            refine aw_iload_n dX6_make_106 3 rfl ?_
            refine aw_bipush (v := 14) dX6_make_107 (by decide) ?_
            refine aw_icmp_ge 116 dX6_make_109 (by decide) (fun c17 => absurd c17 c15) (fun c17 => ?_)
            refine aw_lconst (v := 0) dX6_make_112 (by decide) ?_
            refine aw_goto 117 dX6_make_113 (by decide) ?_
            refine aw_last dX6_make_117 (((sT_X6_begins M (sX6_free M).toNatClampNeg x1 (Int64.toInt32 x2)).TR hT).s 3 (by decide)) (((sT_X6_begins M (sX6_free M).toNatClampNeg x1 (Int64.toInt32 x2)).TR hT).n 3 (by decide)) (vp_up (free_vp c14) (by decide)) ?_
            refine aw_iload dX6_make_118 0 rfl ?_
            refine aw_iret dX6_make_120 rfl (Nat.zero_le _) (Nat.zero_le _) ?_
            exact ⟨congrArg (fun z => some (Value.int z)) (show sX6_make M x1 x2 = sX6_free M by unfold sX6_make; rw [if_pos c1, if_pos c2, if_neg c12, if_pos c14, if_neg c15]).symm, (show tX6_make M x1 x2 = (stL (begM M (sX6_free M).toNatClampNeg x1 (Int64.toInt32 x2)) 3 ((sX6_free M).toNatClampNeg) 0) by unfold tX6_make; rw [if_pos c1, if_pos c2, if_neg c12, if_pos c14, if_neg c15]).symm⟩
        · refine aw_bipush (v := -3) dX6_make_78 (by decide) ?_
          refine aw_iret dX6_make_80 rfl (Nat.zero_le _) (Nat.zero_le _) ?_
          exact ⟨congrArg (fun z => some (Value.int z)) (show sX6_make M x1 x2 = -3 by unfold sX6_make; rw [if_pos c1, if_pos c2, if_neg c12, if_neg c14]).symm, (show tX6_make M x1 x2 = M by unfold tX6_make; rw [if_pos c1, if_pos c2, if_neg c12, if_neg c14]).symm⟩
      · refine aw_iload_n dX6_make_40 1 rfl ?_
        refine aw_bipush (v := 15) dX6_make_41 (by decide) ?_
        refine aw_icmp_ne 57 dX6_make_43 (by decide) (fun c18 => ?_) (fun c18 => ?_)
        · refine aw_iconst (v := 0) dX6_make_57 (by decide) ?_
          refine aw_istore [(4, .int 0), (0, .ref 0), (1, .int x1), (2, .long x2)] dX6_make_58 (Nat.le_of_ble_eq_true rfl) rfl ?_
          refine aw_iload dX6_make_60 0 rfl ?_
          refine aw_if_ne 67 dX6_make_62 (by decide) (fun c19 => absurd rfl c19) (fun c19 => ?_)
          refine aw_iconst (v := -1) dX6_make_65 (by decide) ?_
          refine aw_iret dX6_make_66 rfl (Nat.zero_le _) (Nat.zero_le _) ?_
          exact ⟨congrArg (fun z => some (Value.int z)) (show sX6_make M x1 x2 = -1 by unfold sX6_make; rw [if_pos c1, if_pos c2, if_pos c12, if_neg c18]).symm, (show tX6_make M x1 x2 = M by unfold tX6_make; rw [if_pos c1, if_pos c2, if_pos c12, if_neg c18]).symm⟩
        · refine aw_lload_n dX6_make_46 2 rfl ?_
          refine aw_callSi [.long x2] [] (sp_X6_isWord (d := d - 1) (by omega) x2 ) dX6_make_47 ml_X6_147 sm_X6_isWord rfl (dl1 (d := d) (by omega)) rfl rfl (Nat.le_of_ble_eq_true rfl) rfl rfl (Nat.zero_le _) (Nat.zero_le _) ?_
          refine aw_if_eq 57 dX6_make_50 (by decide) (fun c20 => ?_) (fun c20 => ?_)
          · refine aw_iconst (v := 0) dX6_make_57 (by decide) ?_
            refine aw_istore [(4, .int 0), (0, .ref 0), (1, .int x1), (2, .long x2)] dX6_make_58 (Nat.le_of_ble_eq_true rfl) rfl ?_
            refine aw_iload dX6_make_60 0 rfl ?_
            refine aw_if_ne 67 dX6_make_62 (by decide) (fun c21 => absurd rfl c21) (fun c21 => ?_)
            refine aw_iconst (v := -1) dX6_make_65 (by decide) ?_
            refine aw_iret dX6_make_66 rfl (Nat.zero_le _) (Nat.zero_le _) ?_
            exact ⟨congrArg (fun z => some (Value.int z)) (show sX6_make M x1 x2 = -1 by unfold sX6_make; rw [if_pos c1, if_pos c2, if_pos c12, if_pos c18, if_pos c20]).symm, (show tX6_make M x1 x2 = M by unfold tX6_make; rw [if_pos c1, if_pos c2, if_pos c12, if_pos c18, if_pos c20]).symm⟩
          · refine aw_iconst (v := 1) dX6_make_53 (by decide) ?_
            refine aw_goto 58 dX6_make_54 (by decide) ?_
            refine aw_istore [(4, .int 1), (0, .ref 0), (1, .int x1), (2, .long x2)] dX6_make_58 (Nat.le_of_ble_eq_true rfl) rfl ?_
            refine aw_iload dX6_make_60 0 rfl ?_
            refine aw_if_ne 67 dX6_make_62 (by decide) (fun c22 => ?_) (fun c22 => absurd c22 (by decide))
            refine aw_aload_n dX6_make_67 1 rfl ?_
            refine aw_callVi [] [] (sp_X6_free (d := d - 1) (by omega)  hT) dX6_make_68 ml_X6_151 im_X6_free (hT.s 0 (by decide)) (hT.n 0 (by decide)) rfl rfl (dl1 (d := d) (by omega)) rfl rfl (Nat.le_of_ble_eq_true rfl) rfl rfl (Nat.zero_le _) (Nat.zero_le _) ?_
            refine aw_istore [(5, .int (sX6_free M)), (4, .int 1), (0, .ref 0), (1, .int x1), (2, .long x2)] dX6_make_71 (Nat.le_of_ble_eq_true rfl) rfl ?_
            refine aw_iload dX6_make_73 0 rfl ?_
            refine aw_if_ge 81 dX6_make_75 (by decide) (fun c23 => ?_) (fun c23 => ?_)
            · refine aw_aload_n dX6_make_81 2 rfl ?_
              refine aw_iload dX6_make_82 0 rfl ?_
              refine aw_iload_n dX6_make_84 3 rfl ?_
              refine aw_iload_n dX6_make_85 3 rfl ?_
              refine aw_bipush (v := 14) dX6_make_86 (by decide) ?_
              refine aw_icmp_ge 96 dX6_make_88 (by decide) (fun c24 => ?_) (fun c24 => ?_)
              · refine aw_iconst (v := 0) dX6_make_96 (by decide) ?_
                refine aw_callVv [.int (sX6_free M), .int x1, .int 0] [] (sp_X6_beginsI (d := d - 1) (by omega) (sX6_free M) x1 0 hT (vp_up (free_vp c23) (by decide))) dX6_make_97 ml_X6_155 im_X6_begins (hT.s 0 (by decide)) (hT.n 0 (by decide)) rfl rfl (dl1 (d := d) (by omega)) rfl rfl (Nat.le_of_ble_eq_true rfl) rfl rfl (Nat.zero_le _) (Nat.zero_le _) ?_
                refine aw_aload_n dX6_make_100 2 rfl ?_
                refine aw_getR (b := 3) dX6_make_101 fl_X6_16 rfl (((sT_X6_begins M (sX6_free M).toNatClampNeg x1 0).TR hT).s 0 (by decide)) (((sT_X6_begins M (sX6_free M).toNatClampNeg x1 0).TR hT).n 0 (by decide)) (((sT_X6_begins M (sX6_free M).toNatClampNeg x1 0).TR hT).r 2) ?_
                refine aw_iload dX6_make_104 0 rfl ?_
                refine aw_iload_n dX6_make_106 3 rfl ?_
                refine aw_bipush (v := 14) dX6_make_107 (by decide) ?_
                refine aw_icmp_ge 116 dX6_make_109 (by decide) (fun c25 => ?_) (fun c25 => absurd c24 c25)
                refine aw_lload_n dX6_make_116 4 rfl ?_
                refine aw_last dX6_make_117 (((sT_X6_begins M (sX6_free M).toNatClampNeg x1 0).TR hT).s 3 (by decide)) (((sT_X6_begins M (sX6_free M).toNatClampNeg x1 0).TR hT).n 3 (by decide)) (vp_up (free_vp c23) (by decide)) ?_
                refine aw_iload dX6_make_118 0 rfl ?_
                refine aw_iret dX6_make_120 rfl (Nat.zero_le _) (Nat.zero_le _) ?_
                exact ⟨congrArg (fun z => some (Value.int z)) (show sX6_make M x1 x2 = sX6_free M by unfold sX6_make; rw [if_pos c1, if_pos c2, if_pos c12, if_pos c18, if_neg c20, if_pos c23, if_pos c24]).symm, (show tX6_make M x1 x2 = (stL (begM M (sX6_free M).toNatClampNeg x1 0) 3 ((sX6_free M).toNatClampNeg) x2) by unfold tX6_make; rw [if_pos c1, if_pos c2, if_pos c12, if_pos c18, if_neg c20, if_pos c23, if_pos c24]).symm⟩
              · refine aw_lload_n dX6_make_91 4 rfl ?_
                refine aw_l2i dX6_make_92 ?_
                refine aw_goto 97 dX6_make_93 (by decide) ?_
                refine aw_callVv [.int (sX6_free M), .int x1, .int (Int64.toInt32 x2)] [] (sp_X6_beginsI (d := d - 1) (by omega) (sX6_free M) x1 (Int64.toInt32 x2) hT (vp_up (free_vp c23) (by decide))) dX6_make_97 ml_X6_155 im_X6_begins (hT.s 0 (by decide)) (hT.n 0 (by decide)) rfl rfl (dl1 (d := d) (by omega)) rfl rfl (Nat.le_of_ble_eq_true rfl) rfl rfl (Nat.zero_le _) (Nat.zero_le _) ?_
                refine aw_aload_n dX6_make_100 2 rfl ?_
                refine aw_getR (b := 3) dX6_make_101 fl_X6_16 rfl (((sT_X6_begins M (sX6_free M).toNatClampNeg x1 (Int64.toInt32 x2)).TR hT).s 0 (by decide)) (((sT_X6_begins M (sX6_free M).toNatClampNeg x1 (Int64.toInt32 x2)).TR hT).n 0 (by decide)) (((sT_X6_begins M (sX6_free M).toNatClampNeg x1 (Int64.toInt32 x2)).TR hT).r 2) ?_
                refine aw_iload dX6_make_104 0 rfl ?_
                refine aw_iload_n dX6_make_106 3 rfl ?_
                refine aw_bipush (v := 14) dX6_make_107 (by decide) ?_
                refine aw_icmp_ge 116 dX6_make_109 (by decide) (fun c26 => absurd c26 c24) (fun c26 => ?_)
                refine aw_lconst (v := 0) dX6_make_112 (by decide) ?_
                refine aw_goto 117 dX6_make_113 (by decide) ?_
                refine aw_last dX6_make_117 (((sT_X6_begins M (sX6_free M).toNatClampNeg x1 (Int64.toInt32 x2)).TR hT).s 3 (by decide)) (((sT_X6_begins M (sX6_free M).toNatClampNeg x1 (Int64.toInt32 x2)).TR hT).n 3 (by decide)) (vp_up (free_vp c23) (by decide)) ?_
                refine aw_iload dX6_make_118 0 rfl ?_
                refine aw_iret dX6_make_120 rfl (Nat.zero_le _) (Nat.zero_le _) ?_
                exact ⟨congrArg (fun z => some (Value.int z)) (show sX6_make M x1 x2 = sX6_free M by unfold sX6_make; rw [if_pos c1, if_pos c2, if_pos c12, if_pos c18, if_neg c20, if_pos c23, if_neg c24]).symm, (show tX6_make M x1 x2 = (stL (begM M (sX6_free M).toNatClampNeg x1 (Int64.toInt32 x2)) 3 ((sX6_free M).toNatClampNeg) 0) by unfold tX6_make; rw [if_pos c1, if_pos c2, if_pos c12, if_pos c18, if_neg c20, if_pos c23, if_neg c24]).symm⟩
            · refine aw_bipush (v := -3) dX6_make_78 (by decide) ?_
              refine aw_iret dX6_make_80 rfl (Nat.zero_le _) (Nat.zero_le _) ?_
              exact ⟨congrArg (fun z => some (Value.int z)) (show sX6_make M x1 x2 = -3 by unfold sX6_make; rw [if_pos c1, if_pos c2, if_pos c12, if_pos c18, if_neg c20, if_neg c23]).symm, (show tX6_make M x1 x2 = M by unfold tX6_make; rw [if_pos c1, if_pos c2, if_pos c12, if_pos c18, if_neg c20, if_neg c23]).symm⟩
  · refine aw_lload_n dX6_make_12 2 rfl ?_
    refine aw_lconst (v := 0) dX6_make_13 (by decide) ?_
    refine aw_ldc2 dX6_make_14 kc_X6_143 ?_
    refine aw_callSi [.long x2, .long 0, .long 12] [] (sp_X6_isIn (d := d - 1) (by omega) x2 0 12 ) dX6_make_17 ml_X6_73 sm_X6_isIn rfl (dl1 (d := d) (by omega)) rfl rfl (Nat.le_of_ble_eq_true rfl) rfl rfl (Nat.zero_le _) (Nat.zero_le _) ?_
    refine aw_if_ne 53 dX6_make_20 (by decide) (fun c27 => ?_) (fun c27 => ?_)
    · refine aw_iconst (v := 1) dX6_make_53 (by decide) ?_
      refine aw_goto 58 dX6_make_54 (by decide) ?_
      refine aw_istore [(4, .int 1), (0, .ref 0), (1, .int x1), (2, .long x2)] dX6_make_58 (Nat.le_of_ble_eq_true rfl) rfl ?_
      refine aw_iload dX6_make_60 0 rfl ?_
      refine aw_if_ne 67 dX6_make_62 (by decide) (fun c28 => ?_) (fun c28 => absurd c28 (by decide))
      refine aw_aload_n dX6_make_67 1 rfl ?_
      refine aw_callVi [] [] (sp_X6_free (d := d - 1) (by omega)  hT) dX6_make_68 ml_X6_151 im_X6_free (hT.s 0 (by decide)) (hT.n 0 (by decide)) rfl rfl (dl1 (d := d) (by omega)) rfl rfl (Nat.le_of_ble_eq_true rfl) rfl rfl (Nat.zero_le _) (Nat.zero_le _) ?_
      refine aw_istore [(5, .int (sX6_free M)), (4, .int 1), (0, .ref 0), (1, .int x1), (2, .long x2)] dX6_make_71 (Nat.le_of_ble_eq_true rfl) rfl ?_
      refine aw_iload dX6_make_73 0 rfl ?_
      refine aw_if_ge 81 dX6_make_75 (by decide) (fun c29 => ?_) (fun c29 => ?_)
      · refine aw_aload_n dX6_make_81 2 rfl ?_
        refine aw_iload dX6_make_82 0 rfl ?_
        refine aw_iload_n dX6_make_84 3 rfl ?_
        refine aw_iload_n dX6_make_85 3 rfl ?_
        refine aw_bipush (v := 14) dX6_make_86 (by decide) ?_
        refine aw_icmp_ge 96 dX6_make_88 (by decide) (fun c30 => ?_) (fun c30 => ?_)
        · refine aw_iconst (v := 0) dX6_make_96 (by decide) ?_
          refine aw_callVv [.int (sX6_free M), .int x1, .int 0] [] (sp_X6_beginsI (d := d - 1) (by omega) (sX6_free M) x1 0 hT (vp_up (free_vp c29) (by decide))) dX6_make_97 ml_X6_155 im_X6_begins (hT.s 0 (by decide)) (hT.n 0 (by decide)) rfl rfl (dl1 (d := d) (by omega)) rfl rfl (Nat.le_of_ble_eq_true rfl) rfl rfl (Nat.zero_le _) (Nat.zero_le _) ?_
          refine aw_aload_n dX6_make_100 2 rfl ?_
          refine aw_getR (b := 3) dX6_make_101 fl_X6_16 rfl (((sT_X6_begins M (sX6_free M).toNatClampNeg x1 0).TR hT).s 0 (by decide)) (((sT_X6_begins M (sX6_free M).toNatClampNeg x1 0).TR hT).n 0 (by decide)) (((sT_X6_begins M (sX6_free M).toNatClampNeg x1 0).TR hT).r 2) ?_
          refine aw_iload dX6_make_104 0 rfl ?_
          refine aw_iload_n dX6_make_106 3 rfl ?_
          refine aw_bipush (v := 14) dX6_make_107 (by decide) ?_
          refine aw_icmp_ge 116 dX6_make_109 (by decide) (fun c31 => ?_) (fun c31 => absurd c30 c31)
          refine aw_lload_n dX6_make_116 4 rfl ?_
          refine aw_last dX6_make_117 (((sT_X6_begins M (sX6_free M).toNatClampNeg x1 0).TR hT).s 3 (by decide)) (((sT_X6_begins M (sX6_free M).toNatClampNeg x1 0).TR hT).n 3 (by decide)) (vp_up (free_vp c29) (by decide)) ?_
          refine aw_iload dX6_make_118 0 rfl ?_
          refine aw_iret dX6_make_120 rfl (Nat.zero_le _) (Nat.zero_le _) ?_
          exact ⟨congrArg (fun z => some (Value.int z)) (show sX6_make M x1 x2 = sX6_free M by unfold sX6_make; rw [if_neg c1, if_neg c27, if_pos c29, if_pos c30]).symm, (show tX6_make M x1 x2 = (stL (begM M (sX6_free M).toNatClampNeg x1 0) 3 ((sX6_free M).toNatClampNeg) x2) by unfold tX6_make; rw [if_neg c1, if_neg c27, if_pos c29, if_pos c30]).symm⟩
        · refine aw_lload_n dX6_make_91 4 rfl ?_
          refine aw_l2i dX6_make_92 ?_
          refine aw_goto 97 dX6_make_93 (by decide) ?_
          refine aw_callVv [.int (sX6_free M), .int x1, .int (Int64.toInt32 x2)] [] (sp_X6_beginsI (d := d - 1) (by omega) (sX6_free M) x1 (Int64.toInt32 x2) hT (vp_up (free_vp c29) (by decide))) dX6_make_97 ml_X6_155 im_X6_begins (hT.s 0 (by decide)) (hT.n 0 (by decide)) rfl rfl (dl1 (d := d) (by omega)) rfl rfl (Nat.le_of_ble_eq_true rfl) rfl rfl (Nat.zero_le _) (Nat.zero_le _) ?_
          refine aw_aload_n dX6_make_100 2 rfl ?_
          refine aw_getR (b := 3) dX6_make_101 fl_X6_16 rfl (((sT_X6_begins M (sX6_free M).toNatClampNeg x1 (Int64.toInt32 x2)).TR hT).s 0 (by decide)) (((sT_X6_begins M (sX6_free M).toNatClampNeg x1 (Int64.toInt32 x2)).TR hT).n 0 (by decide)) (((sT_X6_begins M (sX6_free M).toNatClampNeg x1 (Int64.toInt32 x2)).TR hT).r 2) ?_
          refine aw_iload dX6_make_104 0 rfl ?_
          refine aw_iload_n dX6_make_106 3 rfl ?_
          refine aw_bipush (v := 14) dX6_make_107 (by decide) ?_
          refine aw_icmp_ge 116 dX6_make_109 (by decide) (fun c32 => absurd c32 c30) (fun c32 => ?_)
          refine aw_lconst (v := 0) dX6_make_112 (by decide) ?_
          refine aw_goto 117 dX6_make_113 (by decide) ?_
          refine aw_last dX6_make_117 (((sT_X6_begins M (sX6_free M).toNatClampNeg x1 (Int64.toInt32 x2)).TR hT).s 3 (by decide)) (((sT_X6_begins M (sX6_free M).toNatClampNeg x1 (Int64.toInt32 x2)).TR hT).n 3 (by decide)) (vp_up (free_vp c29) (by decide)) ?_
          refine aw_iload dX6_make_118 0 rfl ?_
          refine aw_iret dX6_make_120 rfl (Nat.zero_le _) (Nat.zero_le _) ?_
          exact ⟨congrArg (fun z => some (Value.int z)) (show sX6_make M x1 x2 = sX6_free M by unfold sX6_make; rw [if_neg c1, if_neg c27, if_pos c29, if_neg c30]).symm, (show tX6_make M x1 x2 = (stL (begM M (sX6_free M).toNatClampNeg x1 (Int64.toInt32 x2)) 3 ((sX6_free M).toNatClampNeg) 0) by unfold tX6_make; rw [if_neg c1, if_neg c27, if_pos c29, if_neg c30]).symm⟩
      · refine aw_bipush (v := -3) dX6_make_78 (by decide) ?_
        refine aw_iret dX6_make_80 rfl (Nat.zero_le _) (Nat.zero_le _) ?_
        exact ⟨congrArg (fun z => some (Value.int z)) (show sX6_make M x1 x2 = -3 by unfold sX6_make; rw [if_neg c1, if_neg c27, if_neg c29]).symm, (show tX6_make M x1 x2 = M by unfold tX6_make; rw [if_neg c1, if_neg c27, if_neg c29]).symm⟩
    · refine aw_iload_n dX6_make_23 1 rfl ?_
      refine aw_bipush (v := 14) dX6_make_24 (by decide) ?_
      refine aw_icmp_ne 40 dX6_make_26 (by decide) (fun c33 => ?_) (fun c33 => ?_)
      · refine aw_iload_n dX6_make_40 1 rfl ?_
        refine aw_bipush (v := 15) dX6_make_41 (by decide) ?_
        refine aw_icmp_ne 57 dX6_make_43 (by decide) (fun c34 => ?_) (fun c34 => ?_)
        · refine aw_iconst (v := 0) dX6_make_57 (by decide) ?_
          refine aw_istore [(4, .int 0), (0, .ref 0), (1, .int x1), (2, .long x2)] dX6_make_58 (Nat.le_of_ble_eq_true rfl) rfl ?_
          refine aw_iload dX6_make_60 0 rfl ?_
          refine aw_if_ne 67 dX6_make_62 (by decide) (fun c35 => absurd rfl c35) (fun c35 => ?_)
          refine aw_iconst (v := -1) dX6_make_65 (by decide) ?_
          refine aw_iret dX6_make_66 rfl (Nat.zero_le _) (Nat.zero_le _) ?_
          exact ⟨congrArg (fun z => some (Value.int z)) (show sX6_make M x1 x2 = -1 by unfold sX6_make; rw [if_neg c1, if_pos c27, if_neg c33, if_neg c34]).symm, (show tX6_make M x1 x2 = M by unfold tX6_make; rw [if_neg c1, if_pos c27, if_neg c33, if_neg c34]).symm⟩
        · refine aw_lload_n dX6_make_46 2 rfl ?_
          refine aw_callSi [.long x2] [] (sp_X6_isWord (d := d - 1) (by omega) x2 ) dX6_make_47 ml_X6_147 sm_X6_isWord rfl (dl1 (d := d) (by omega)) rfl rfl (Nat.le_of_ble_eq_true rfl) rfl rfl (Nat.zero_le _) (Nat.zero_le _) ?_
          refine aw_if_eq 57 dX6_make_50 (by decide) (fun c36 => ?_) (fun c36 => ?_)
          · refine aw_iconst (v := 0) dX6_make_57 (by decide) ?_
            refine aw_istore [(4, .int 0), (0, .ref 0), (1, .int x1), (2, .long x2)] dX6_make_58 (Nat.le_of_ble_eq_true rfl) rfl ?_
            refine aw_iload dX6_make_60 0 rfl ?_
            refine aw_if_ne 67 dX6_make_62 (by decide) (fun c37 => absurd rfl c37) (fun c37 => ?_)
            refine aw_iconst (v := -1) dX6_make_65 (by decide) ?_
            refine aw_iret dX6_make_66 rfl (Nat.zero_le _) (Nat.zero_le _) ?_
            exact ⟨congrArg (fun z => some (Value.int z)) (show sX6_make M x1 x2 = -1 by unfold sX6_make; rw [if_neg c1, if_pos c27, if_neg c33, if_pos c34, if_pos c36]).symm, (show tX6_make M x1 x2 = M by unfold tX6_make; rw [if_neg c1, if_pos c27, if_neg c33, if_pos c34, if_pos c36]).symm⟩
          · refine aw_iconst (v := 1) dX6_make_53 (by decide) ?_
            refine aw_goto 58 dX6_make_54 (by decide) ?_
            refine aw_istore [(4, .int 1), (0, .ref 0), (1, .int x1), (2, .long x2)] dX6_make_58 (Nat.le_of_ble_eq_true rfl) rfl ?_
            refine aw_iload dX6_make_60 0 rfl ?_
            refine aw_if_ne 67 dX6_make_62 (by decide) (fun c38 => ?_) (fun c38 => absurd c38 (by decide))
            refine aw_aload_n dX6_make_67 1 rfl ?_
            refine aw_callVi [] [] (sp_X6_free (d := d - 1) (by omega)  hT) dX6_make_68 ml_X6_151 im_X6_free (hT.s 0 (by decide)) (hT.n 0 (by decide)) rfl rfl (dl1 (d := d) (by omega)) rfl rfl (Nat.le_of_ble_eq_true rfl) rfl rfl (Nat.zero_le _) (Nat.zero_le _) ?_
            refine aw_istore [(5, .int (sX6_free M)), (4, .int 1), (0, .ref 0), (1, .int x1), (2, .long x2)] dX6_make_71 (Nat.le_of_ble_eq_true rfl) rfl ?_
            refine aw_iload dX6_make_73 0 rfl ?_
            refine aw_if_ge 81 dX6_make_75 (by decide) (fun c39 => ?_) (fun c39 => ?_)
            · refine aw_aload_n dX6_make_81 2 rfl ?_
              refine aw_iload dX6_make_82 0 rfl ?_
              refine aw_iload_n dX6_make_84 3 rfl ?_
              refine aw_iload_n dX6_make_85 3 rfl ?_
              refine aw_bipush (v := 14) dX6_make_86 (by decide) ?_
              refine aw_icmp_ge 96 dX6_make_88 (by decide) (fun c40 => ?_) (fun c40 => ?_)
              · refine aw_iconst (v := 0) dX6_make_96 (by decide) ?_
                refine aw_callVv [.int (sX6_free M), .int x1, .int 0] [] (sp_X6_beginsI (d := d - 1) (by omega) (sX6_free M) x1 0 hT (vp_up (free_vp c39) (by decide))) dX6_make_97 ml_X6_155 im_X6_begins (hT.s 0 (by decide)) (hT.n 0 (by decide)) rfl rfl (dl1 (d := d) (by omega)) rfl rfl (Nat.le_of_ble_eq_true rfl) rfl rfl (Nat.zero_le _) (Nat.zero_le _) ?_
                refine aw_aload_n dX6_make_100 2 rfl ?_
                refine aw_getR (b := 3) dX6_make_101 fl_X6_16 rfl (((sT_X6_begins M (sX6_free M).toNatClampNeg x1 0).TR hT).s 0 (by decide)) (((sT_X6_begins M (sX6_free M).toNatClampNeg x1 0).TR hT).n 0 (by decide)) (((sT_X6_begins M (sX6_free M).toNatClampNeg x1 0).TR hT).r 2) ?_
                refine aw_iload dX6_make_104 0 rfl ?_
                refine aw_iload_n dX6_make_106 3 rfl ?_
                refine aw_bipush (v := 14) dX6_make_107 (by decide) ?_
                refine aw_icmp_ge 116 dX6_make_109 (by decide) (fun c41 => ?_) (fun c41 => absurd c40 c41)
                refine aw_lload_n dX6_make_116 4 rfl ?_
                refine aw_last dX6_make_117 (((sT_X6_begins M (sX6_free M).toNatClampNeg x1 0).TR hT).s 3 (by decide)) (((sT_X6_begins M (sX6_free M).toNatClampNeg x1 0).TR hT).n 3 (by decide)) (vp_up (free_vp c39) (by decide)) ?_
                refine aw_iload dX6_make_118 0 rfl ?_
                refine aw_iret dX6_make_120 rfl (Nat.zero_le _) (Nat.zero_le _) ?_
                exact ⟨congrArg (fun z => some (Value.int z)) (show sX6_make M x1 x2 = sX6_free M by unfold sX6_make; rw [if_neg c1, if_pos c27, if_neg c33, if_pos c34, if_neg c36, if_pos c39, if_pos c40]).symm, (show tX6_make M x1 x2 = (stL (begM M (sX6_free M).toNatClampNeg x1 0) 3 ((sX6_free M).toNatClampNeg) x2) by unfold tX6_make; rw [if_neg c1, if_pos c27, if_neg c33, if_pos c34, if_neg c36, if_pos c39, if_pos c40]).symm⟩
              · refine aw_lload_n dX6_make_91 4 rfl ?_
                refine aw_l2i dX6_make_92 ?_
                refine aw_goto 97 dX6_make_93 (by decide) ?_
                refine aw_callVv [.int (sX6_free M), .int x1, .int (Int64.toInt32 x2)] [] (sp_X6_beginsI (d := d - 1) (by omega) (sX6_free M) x1 (Int64.toInt32 x2) hT (vp_up (free_vp c39) (by decide))) dX6_make_97 ml_X6_155 im_X6_begins (hT.s 0 (by decide)) (hT.n 0 (by decide)) rfl rfl (dl1 (d := d) (by omega)) rfl rfl (Nat.le_of_ble_eq_true rfl) rfl rfl (Nat.zero_le _) (Nat.zero_le _) ?_
                refine aw_aload_n dX6_make_100 2 rfl ?_
                refine aw_getR (b := 3) dX6_make_101 fl_X6_16 rfl (((sT_X6_begins M (sX6_free M).toNatClampNeg x1 (Int64.toInt32 x2)).TR hT).s 0 (by decide)) (((sT_X6_begins M (sX6_free M).toNatClampNeg x1 (Int64.toInt32 x2)).TR hT).n 0 (by decide)) (((sT_X6_begins M (sX6_free M).toNatClampNeg x1 (Int64.toInt32 x2)).TR hT).r 2) ?_
                refine aw_iload dX6_make_104 0 rfl ?_
                refine aw_iload_n dX6_make_106 3 rfl ?_
                refine aw_bipush (v := 14) dX6_make_107 (by decide) ?_
                refine aw_icmp_ge 116 dX6_make_109 (by decide) (fun c42 => absurd c42 c40) (fun c42 => ?_)
                refine aw_lconst (v := 0) dX6_make_112 (by decide) ?_
                refine aw_goto 117 dX6_make_113 (by decide) ?_
                refine aw_last dX6_make_117 (((sT_X6_begins M (sX6_free M).toNatClampNeg x1 (Int64.toInt32 x2)).TR hT).s 3 (by decide)) (((sT_X6_begins M (sX6_free M).toNatClampNeg x1 (Int64.toInt32 x2)).TR hT).n 3 (by decide)) (vp_up (free_vp c39) (by decide)) ?_
                refine aw_iload dX6_make_118 0 rfl ?_
                refine aw_iret dX6_make_120 rfl (Nat.zero_le _) (Nat.zero_le _) ?_
                exact ⟨congrArg (fun z => some (Value.int z)) (show sX6_make M x1 x2 = sX6_free M by unfold sX6_make; rw [if_neg c1, if_pos c27, if_neg c33, if_pos c34, if_neg c36, if_pos c39, if_neg c40]).symm, (show tX6_make M x1 x2 = (stL (begM M (sX6_free M).toNatClampNeg x1 (Int64.toInt32 x2)) 3 ((sX6_free M).toNatClampNeg) 0) by unfold tX6_make; rw [if_neg c1, if_pos c27, if_neg c33, if_pos c34, if_neg c36, if_pos c39, if_neg c40]).symm⟩
            · refine aw_bipush (v := -3) dX6_make_78 (by decide) ?_
              refine aw_iret dX6_make_80 rfl (Nat.zero_le _) (Nat.zero_le _) ?_
              exact ⟨congrArg (fun z => some (Value.int z)) (show sX6_make M x1 x2 = -3 by unfold sX6_make; rw [if_neg c1, if_pos c27, if_neg c33, if_pos c34, if_neg c36, if_neg c39]).symm, (show tX6_make M x1 x2 = M by unfold tX6_make; rw [if_neg c1, if_pos c27, if_neg c33, if_pos c34, if_neg c36, if_neg c39]).symm⟩
      · refine aw_lload_n dX6_make_29 2 rfl ?_
        refine aw_lconst (v := 0) dX6_make_30 (by decide) ?_
        refine aw_ldc2 dX6_make_31 kc_X6_145 ?_
        refine aw_callSi [.long x2, .long 0, .long 5] [] (sp_X6_isIn (d := d - 1) (by omega) x2 0 5 ) dX6_make_34 ml_X6_73 sm_X6_isIn rfl (dl1 (d := d) (by omega)) rfl rfl (Nat.le_of_ble_eq_true rfl) rfl rfl (Nat.zero_le _) (Nat.zero_le _) ?_
        refine aw_if_ne 53 dX6_make_37 (by decide) (fun c43 => ?_) (fun c43 => ?_)
        · refine aw_iconst (v := 1) dX6_make_53 (by decide) ?_
          refine aw_goto 58 dX6_make_54 (by decide) ?_
          refine aw_istore [(4, .int 1), (0, .ref 0), (1, .int x1), (2, .long x2)] dX6_make_58 (Nat.le_of_ble_eq_true rfl) rfl ?_
          refine aw_iload dX6_make_60 0 rfl ?_
          refine aw_if_ne 67 dX6_make_62 (by decide) (fun c44 => ?_) (fun c44 => absurd c44 (by decide))
          refine aw_aload_n dX6_make_67 1 rfl ?_
          refine aw_callVi [] [] (sp_X6_free (d := d - 1) (by omega)  hT) dX6_make_68 ml_X6_151 im_X6_free (hT.s 0 (by decide)) (hT.n 0 (by decide)) rfl rfl (dl1 (d := d) (by omega)) rfl rfl (Nat.le_of_ble_eq_true rfl) rfl rfl (Nat.zero_le _) (Nat.zero_le _) ?_
          refine aw_istore [(5, .int (sX6_free M)), (4, .int 1), (0, .ref 0), (1, .int x1), (2, .long x2)] dX6_make_71 (Nat.le_of_ble_eq_true rfl) rfl ?_
          refine aw_iload dX6_make_73 0 rfl ?_
          refine aw_if_ge 81 dX6_make_75 (by decide) (fun c45 => ?_) (fun c45 => ?_)
          · refine aw_aload_n dX6_make_81 2 rfl ?_
            refine aw_iload dX6_make_82 0 rfl ?_
            refine aw_iload_n dX6_make_84 3 rfl ?_
            refine aw_iload_n dX6_make_85 3 rfl ?_
            refine aw_bipush (v := 14) dX6_make_86 (by decide) ?_
            refine aw_icmp_ge 96 dX6_make_88 (by decide) (fun c46 => ?_) (fun c46 => ?_)
            · refine aw_iconst (v := 0) dX6_make_96 (by decide) ?_
              refine aw_callVv [.int (sX6_free M), .int x1, .int 0] [] (sp_X6_beginsI (d := d - 1) (by omega) (sX6_free M) x1 0 hT (vp_up (free_vp c45) (by decide))) dX6_make_97 ml_X6_155 im_X6_begins (hT.s 0 (by decide)) (hT.n 0 (by decide)) rfl rfl (dl1 (d := d) (by omega)) rfl rfl (Nat.le_of_ble_eq_true rfl) rfl rfl (Nat.zero_le _) (Nat.zero_le _) ?_
              refine aw_aload_n dX6_make_100 2 rfl ?_
              refine aw_getR (b := 3) dX6_make_101 fl_X6_16 rfl (((sT_X6_begins M (sX6_free M).toNatClampNeg x1 0).TR hT).s 0 (by decide)) (((sT_X6_begins M (sX6_free M).toNatClampNeg x1 0).TR hT).n 0 (by decide)) (((sT_X6_begins M (sX6_free M).toNatClampNeg x1 0).TR hT).r 2) ?_
              refine aw_iload dX6_make_104 0 rfl ?_
              refine aw_iload_n dX6_make_106 3 rfl ?_
              refine aw_bipush (v := 14) dX6_make_107 (by decide) ?_
              refine aw_icmp_ge 116 dX6_make_109 (by decide) (fun c47 => ?_) (fun c47 => absurd c46 c47)
              refine aw_lload_n dX6_make_116 4 rfl ?_
              refine aw_last dX6_make_117 (((sT_X6_begins M (sX6_free M).toNatClampNeg x1 0).TR hT).s 3 (by decide)) (((sT_X6_begins M (sX6_free M).toNatClampNeg x1 0).TR hT).n 3 (by decide)) (vp_up (free_vp c45) (by decide)) ?_
              refine aw_iload dX6_make_118 0 rfl ?_
              refine aw_iret dX6_make_120 rfl (Nat.zero_le _) (Nat.zero_le _) ?_
              exact ⟨congrArg (fun z => some (Value.int z)) (show sX6_make M x1 x2 = sX6_free M by unfold sX6_make; rw [if_neg c1, if_pos c27, if_pos c33, if_neg c43, if_pos c45, if_pos c46]).symm, (show tX6_make M x1 x2 = (stL (begM M (sX6_free M).toNatClampNeg x1 0) 3 ((sX6_free M).toNatClampNeg) x2) by unfold tX6_make; rw [if_neg c1, if_pos c27, if_pos c33, if_neg c43, if_pos c45, if_pos c46]).symm⟩
            · refine aw_lload_n dX6_make_91 4 rfl ?_
              refine aw_l2i dX6_make_92 ?_
              refine aw_goto 97 dX6_make_93 (by decide) ?_
              refine aw_callVv [.int (sX6_free M), .int x1, .int (Int64.toInt32 x2)] [] (sp_X6_beginsI (d := d - 1) (by omega) (sX6_free M) x1 (Int64.toInt32 x2) hT (vp_up (free_vp c45) (by decide))) dX6_make_97 ml_X6_155 im_X6_begins (hT.s 0 (by decide)) (hT.n 0 (by decide)) rfl rfl (dl1 (d := d) (by omega)) rfl rfl (Nat.le_of_ble_eq_true rfl) rfl rfl (Nat.zero_le _) (Nat.zero_le _) ?_
              refine aw_aload_n dX6_make_100 2 rfl ?_
              refine aw_getR (b := 3) dX6_make_101 fl_X6_16 rfl (((sT_X6_begins M (sX6_free M).toNatClampNeg x1 (Int64.toInt32 x2)).TR hT).s 0 (by decide)) (((sT_X6_begins M (sX6_free M).toNatClampNeg x1 (Int64.toInt32 x2)).TR hT).n 0 (by decide)) (((sT_X6_begins M (sX6_free M).toNatClampNeg x1 (Int64.toInt32 x2)).TR hT).r 2) ?_
              refine aw_iload dX6_make_104 0 rfl ?_
              refine aw_iload_n dX6_make_106 3 rfl ?_
              refine aw_bipush (v := 14) dX6_make_107 (by decide) ?_
              refine aw_icmp_ge 116 dX6_make_109 (by decide) (fun c48 => absurd c48 c46) (fun c48 => ?_)
              refine aw_lconst (v := 0) dX6_make_112 (by decide) ?_
              refine aw_goto 117 dX6_make_113 (by decide) ?_
              refine aw_last dX6_make_117 (((sT_X6_begins M (sX6_free M).toNatClampNeg x1 (Int64.toInt32 x2)).TR hT).s 3 (by decide)) (((sT_X6_begins M (sX6_free M).toNatClampNeg x1 (Int64.toInt32 x2)).TR hT).n 3 (by decide)) (vp_up (free_vp c45) (by decide)) ?_
              refine aw_iload dX6_make_118 0 rfl ?_
              refine aw_iret dX6_make_120 rfl (Nat.zero_le _) (Nat.zero_le _) ?_
              exact ⟨congrArg (fun z => some (Value.int z)) (show sX6_make M x1 x2 = sX6_free M by unfold sX6_make; rw [if_neg c1, if_pos c27, if_pos c33, if_neg c43, if_pos c45, if_neg c46]).symm, (show tX6_make M x1 x2 = (stL (begM M (sX6_free M).toNatClampNeg x1 (Int64.toInt32 x2)) 3 ((sX6_free M).toNatClampNeg) 0) by unfold tX6_make; rw [if_neg c1, if_pos c27, if_pos c33, if_neg c43, if_pos c45, if_neg c46]).symm⟩
          · refine aw_bipush (v := -3) dX6_make_78 (by decide) ?_
            refine aw_iret dX6_make_80 rfl (Nat.zero_le _) (Nat.zero_le _) ?_
            exact ⟨congrArg (fun z => some (Value.int z)) (show sX6_make M x1 x2 = -3 by unfold sX6_make; rw [if_neg c1, if_pos c27, if_pos c33, if_neg c43, if_neg c45]).symm, (show tX6_make M x1 x2 = M by unfold tX6_make; rw [if_neg c1, if_pos c27, if_pos c33, if_neg c43, if_neg c45]).symm⟩
        · refine aw_iload_n dX6_make_40 1 rfl ?_
          refine aw_bipush (v := 15) dX6_make_41 (by decide) ?_
          refine aw_icmp_ne 57 dX6_make_43 (by decide) (fun c49 => ?_) (fun c49 => ?_)
          · refine aw_iconst (v := 0) dX6_make_57 (by decide) ?_
            refine aw_istore [(4, .int 0), (0, .ref 0), (1, .int x1), (2, .long x2)] dX6_make_58 (Nat.le_of_ble_eq_true rfl) rfl ?_
            refine aw_iload dX6_make_60 0 rfl ?_
            refine aw_if_ne 67 dX6_make_62 (by decide) (fun c50 => absurd rfl c50) (fun c50 => ?_)
            refine aw_iconst (v := -1) dX6_make_65 (by decide) ?_
            refine aw_iret dX6_make_66 rfl (Nat.zero_le _) (Nat.zero_le _) ?_
            exact ⟨congrArg (fun z => some (Value.int z)) (show sX6_make M x1 x2 = -1 by unfold sX6_make; rw [if_neg c1, if_pos c27, if_pos c33, if_pos c43, if_neg c49]).symm, (show tX6_make M x1 x2 = M by unfold tX6_make; rw [if_neg c1, if_pos c27, if_pos c33, if_pos c43, if_neg c49]).symm⟩
          · refine aw_lload_n dX6_make_46 2 rfl ?_
            refine aw_callSi [.long x2] [] (sp_X6_isWord (d := d - 1) (by omega) x2 ) dX6_make_47 ml_X6_147 sm_X6_isWord rfl (dl1 (d := d) (by omega)) rfl rfl (Nat.le_of_ble_eq_true rfl) rfl rfl (Nat.zero_le _) (Nat.zero_le _) ?_
            refine aw_if_eq 57 dX6_make_50 (by decide) (fun c51 => ?_) (fun c51 => ?_)
            · refine aw_iconst (v := 0) dX6_make_57 (by decide) ?_
              refine aw_istore [(4, .int 0), (0, .ref 0), (1, .int x1), (2, .long x2)] dX6_make_58 (Nat.le_of_ble_eq_true rfl) rfl ?_
              refine aw_iload dX6_make_60 0 rfl ?_
              refine aw_if_ne 67 dX6_make_62 (by decide) (fun c52 => absurd rfl c52) (fun c52 => ?_)
              refine aw_iconst (v := -1) dX6_make_65 (by decide) ?_
              refine aw_iret dX6_make_66 rfl (Nat.zero_le _) (Nat.zero_le _) ?_
              exact ⟨congrArg (fun z => some (Value.int z)) (show sX6_make M x1 x2 = -1 by unfold sX6_make; rw [if_neg c1, if_pos c27, if_pos c33, if_pos c43, if_pos c49, if_pos c51]).symm, (show tX6_make M x1 x2 = M by unfold tX6_make; rw [if_neg c1, if_pos c27, if_pos c33, if_pos c43, if_pos c49, if_pos c51]).symm⟩
            · refine aw_iconst (v := 1) dX6_make_53 (by decide) ?_
              refine aw_goto 58 dX6_make_54 (by decide) ?_
              refine aw_istore [(4, .int 1), (0, .ref 0), (1, .int x1), (2, .long x2)] dX6_make_58 (Nat.le_of_ble_eq_true rfl) rfl ?_
              refine aw_iload dX6_make_60 0 rfl ?_
              refine aw_if_ne 67 dX6_make_62 (by decide) (fun c53 => ?_) (fun c53 => absurd c53 (by decide))
              refine aw_aload_n dX6_make_67 1 rfl ?_
              refine aw_callVi [] [] (sp_X6_free (d := d - 1) (by omega)  hT) dX6_make_68 ml_X6_151 im_X6_free (hT.s 0 (by decide)) (hT.n 0 (by decide)) rfl rfl (dl1 (d := d) (by omega)) rfl rfl (Nat.le_of_ble_eq_true rfl) rfl rfl (Nat.zero_le _) (Nat.zero_le _) ?_
              refine aw_istore [(5, .int (sX6_free M)), (4, .int 1), (0, .ref 0), (1, .int x1), (2, .long x2)] dX6_make_71 (Nat.le_of_ble_eq_true rfl) rfl ?_
              refine aw_iload dX6_make_73 0 rfl ?_
              refine aw_if_ge 81 dX6_make_75 (by decide) (fun c54 => ?_) (fun c54 => ?_)
              · refine aw_aload_n dX6_make_81 2 rfl ?_
                refine aw_iload dX6_make_82 0 rfl ?_
                refine aw_iload_n dX6_make_84 3 rfl ?_
                refine aw_iload_n dX6_make_85 3 rfl ?_
                refine aw_bipush (v := 14) dX6_make_86 (by decide) ?_
                refine aw_icmp_ge 96 dX6_make_88 (by decide) (fun c55 => ?_) (fun c55 => ?_)
                · refine aw_iconst (v := 0) dX6_make_96 (by decide) ?_
                  refine aw_callVv [.int (sX6_free M), .int x1, .int 0] [] (sp_X6_beginsI (d := d - 1) (by omega) (sX6_free M) x1 0 hT (vp_up (free_vp c54) (by decide))) dX6_make_97 ml_X6_155 im_X6_begins (hT.s 0 (by decide)) (hT.n 0 (by decide)) rfl rfl (dl1 (d := d) (by omega)) rfl rfl (Nat.le_of_ble_eq_true rfl) rfl rfl (Nat.zero_le _) (Nat.zero_le _) ?_
                  refine aw_aload_n dX6_make_100 2 rfl ?_
                  refine aw_getR (b := 3) dX6_make_101 fl_X6_16 rfl (((sT_X6_begins M (sX6_free M).toNatClampNeg x1 0).TR hT).s 0 (by decide)) (((sT_X6_begins M (sX6_free M).toNatClampNeg x1 0).TR hT).n 0 (by decide)) (((sT_X6_begins M (sX6_free M).toNatClampNeg x1 0).TR hT).r 2) ?_
                  refine aw_iload dX6_make_104 0 rfl ?_
                  refine aw_iload_n dX6_make_106 3 rfl ?_
                  refine aw_bipush (v := 14) dX6_make_107 (by decide) ?_
                  refine aw_icmp_ge 116 dX6_make_109 (by decide) (fun c56 => ?_) (fun c56 => absurd c55 c56)
                  refine aw_lload_n dX6_make_116 4 rfl ?_
                  refine aw_last dX6_make_117 (((sT_X6_begins M (sX6_free M).toNatClampNeg x1 0).TR hT).s 3 (by decide)) (((sT_X6_begins M (sX6_free M).toNatClampNeg x1 0).TR hT).n 3 (by decide)) (vp_up (free_vp c54) (by decide)) ?_
                  refine aw_iload dX6_make_118 0 rfl ?_
                  refine aw_iret dX6_make_120 rfl (Nat.zero_le _) (Nat.zero_le _) ?_
                  exact ⟨congrArg (fun z => some (Value.int z)) (show sX6_make M x1 x2 = sX6_free M by unfold sX6_make; rw [if_neg c1, if_pos c27, if_pos c33, if_pos c43, if_pos c49, if_neg c51, if_pos c54, if_pos c55]).symm, (show tX6_make M x1 x2 = (stL (begM M (sX6_free M).toNatClampNeg x1 0) 3 ((sX6_free M).toNatClampNeg) x2) by unfold tX6_make; rw [if_neg c1, if_pos c27, if_pos c33, if_pos c43, if_pos c49, if_neg c51, if_pos c54, if_pos c55]).symm⟩
                · refine aw_lload_n dX6_make_91 4 rfl ?_
                  refine aw_l2i dX6_make_92 ?_
                  refine aw_goto 97 dX6_make_93 (by decide) ?_
                  refine aw_callVv [.int (sX6_free M), .int x1, .int (Int64.toInt32 x2)] [] (sp_X6_beginsI (d := d - 1) (by omega) (sX6_free M) x1 (Int64.toInt32 x2) hT (vp_up (free_vp c54) (by decide))) dX6_make_97 ml_X6_155 im_X6_begins (hT.s 0 (by decide)) (hT.n 0 (by decide)) rfl rfl (dl1 (d := d) (by omega)) rfl rfl (Nat.le_of_ble_eq_true rfl) rfl rfl (Nat.zero_le _) (Nat.zero_le _) ?_
                  refine aw_aload_n dX6_make_100 2 rfl ?_
                  refine aw_getR (b := 3) dX6_make_101 fl_X6_16 rfl (((sT_X6_begins M (sX6_free M).toNatClampNeg x1 (Int64.toInt32 x2)).TR hT).s 0 (by decide)) (((sT_X6_begins M (sX6_free M).toNatClampNeg x1 (Int64.toInt32 x2)).TR hT).n 0 (by decide)) (((sT_X6_begins M (sX6_free M).toNatClampNeg x1 (Int64.toInt32 x2)).TR hT).r 2) ?_
                  refine aw_iload dX6_make_104 0 rfl ?_
                  refine aw_iload_n dX6_make_106 3 rfl ?_
                  refine aw_bipush (v := 14) dX6_make_107 (by decide) ?_
                  refine aw_icmp_ge 116 dX6_make_109 (by decide) (fun c57 => absurd c57 c55) (fun c57 => ?_)
                  refine aw_lconst (v := 0) dX6_make_112 (by decide) ?_
                  refine aw_goto 117 dX6_make_113 (by decide) ?_
                  refine aw_last dX6_make_117 (((sT_X6_begins M (sX6_free M).toNatClampNeg x1 (Int64.toInt32 x2)).TR hT).s 3 (by decide)) (((sT_X6_begins M (sX6_free M).toNatClampNeg x1 (Int64.toInt32 x2)).TR hT).n 3 (by decide)) (vp_up (free_vp c54) (by decide)) ?_
                  refine aw_iload dX6_make_118 0 rfl ?_
                  refine aw_iret dX6_make_120 rfl (Nat.zero_le _) (Nat.zero_le _) ?_
                  exact ⟨congrArg (fun z => some (Value.int z)) (show sX6_make M x1 x2 = sX6_free M by unfold sX6_make; rw [if_neg c1, if_pos c27, if_pos c33, if_pos c43, if_pos c49, if_neg c51, if_pos c54, if_neg c55]).symm, (show tX6_make M x1 x2 = (stL (begM M (sX6_free M).toNatClampNeg x1 (Int64.toInt32 x2)) 3 ((sX6_free M).toNatClampNeg) 0) by unfold tX6_make; rw [if_neg c1, if_pos c27, if_pos c33, if_pos c43, if_pos c49, if_neg c51, if_pos c54, if_neg c55]).symm⟩
              · refine aw_bipush (v := -3) dX6_make_78 (by decide) ?_
                refine aw_iret dX6_make_80 rfl (Nat.zero_le _) (Nat.zero_le _) ?_
                exact ⟨congrArg (fun z => some (Value.int z)) (show sX6_make M x1 x2 = -3 by unfold sX6_make; rw [if_neg c1, if_pos c27, if_pos c33, if_pos c43, if_pos c49, if_neg c51, if_neg c54]).symm, (show tX6_make M x1 x2 = M by unfold tX6_make; rw [if_neg c1, if_pos c27, if_pos c33, if_pos c43, if_pos c49, if_neg c51, if_neg c54]).symm⟩
theorem begM_2n (M : xM) (t : Nat) (x y : Int32) {u : Nat} (h : u ≠ t) : mI (begM M t x y) 2 u = mI M 2 u := by
  unfold begM
  rw [mI_flL, mI_flI_ne _ (by decide)]
  show xup (xup M.1 1 t x) 2 t y 2 u = M.1 2 u
  rw [xup_k _ _ _ h, xup_n _ _ _ (by decide)]
theorem lenz {M : xM} {x : Int32} (hZ : LenR M) (h : vp_in x 24) : mI M 2 x.toNatClampNeg = nI (mI M 2 x.toNatClampNeg).toNatClampNeg ∧ (mI M 2 x.toNatClampNeg).toNatClampNeg ≤ 12 := by
  obtain ⟨z, hz, e⟩ := hZ _ (vp_lt h)
  rw [e, nI_clamp (by omega)]
  exact ⟨rfl, hz⟩
theorem cp_ne {M : xM} {x : Int32} (h : 0 ≤ sX6_refusal M x) (hf : 0 ≤ sX6_free M) : x.toNatClampNeg ≠ (sX6_free M).toNatClampNeg := by
  intro e
  rcases lst_or (rEmp M) 12 0 with q | ⟨j, h1, h2, h3, h4⟩
  · unfold sX6_free at hf
    rw [q] at hf
    exact absurd hf (by decide)
  · have e2 : sX6_free M = nI j := h3
    rw [e2, nI_clamp (by omega)] at e
    have h5 : mI M 1 j < 0 := of_decide_eq_true h4
    unfold sX6_refusal at h
    rw [e, if_neg (Int32.not_le.mpr h5)] at h
    exact absurd h (by decide)
def sX6_copyOf (M : xM) (x1 : Int32) : Int32 := (if (bz (sX6_isThing (Int32.toInt64 x1))) = 0 then -1 else (if 0 ≤ (sX6_refusal M x1) then (if 0 ≤ (sX6_free M) then sX6_free M else -3) else sX6_refusal M x1))
def tX6_copyOf (M : xM) (x1 : Int32) : xM := (if (bz (sX6_isThing (Int32.toInt64 x1))) = 0 then M else (if 0 ≤ (sX6_refusal M x1) then (if 0 ≤ (sX6_free M) then (copM (begM M (sX6_free M).toNatClampNeg (mI M 1 x1.toNatClampNeg) (mI M 2 x1.toNatClampNeg)) x1.toNatClampNeg (sX6_free M).toNatClampNeg (mI M 2 x1.toNatClampNeg).toNatClampNeg) else M) else M))
theorem sT_X6_copyOf (M : xM) (x1 : Int32) : sT M (tX6_copyOf M x1) := (sT.ite (sT.rf M) (sT.ite (sT.ite (((sT.rf M).tr (sT_X6_begins M (sX6_free M).toNatClampNeg (mI M 1 x1.toNatClampNeg) (mI M 2 x1.toNatClampNeg))).tr (sT_X6_copies (begM M (sX6_free M).toNatClampNeg (mI M 1 x1.toNatClampNeg) (mI M 2 x1.toNatClampNeg)) x1.toNatClampNeg (sX6_free M).toNatClampNeg (mI M 2 x1.toNatClampNeg).toNatClampNeg)) (sT.rf M)) (sT.rf M)))
theorem sp_X6_copyOf {d : Nat} (hd : 2 ≤ d) {M : xM} (x1 : Int32) (hT : TR M) (hZ : LenR M) : Sp (fX6_copyOf d) [.ref 0, .int x1] M (dt (some (.int (sX6_copyOf M x1))) (tX6_copyOf M x1)) := by
  refine Sp.of pn_X6 (Nat.le_of_ble_eq_true rfl) (fun h => Bool.noConfusion h) ?_
  refine aw_iload_n dX6_copyOf_0 1 rfl ?_
  refine aw_i2l dX6_copyOf_1 ?_
  refine aw_callSi [.long (Int32.toInt64 x1)] [] (sp_X6_isThing (d := d - 1) (by omega) (Int32.toInt64 x1) ) dX6_copyOf_2 ml_X6_159 sm_X6_isThing rfl (dl1 (d := d) (by omega)) rfl rfl (Nat.le_of_ble_eq_true rfl) rfl rfl (Nat.zero_le _) (Nat.zero_le _) ?_
  refine aw_if_ne 10 dX6_copyOf_5 (by decide) (fun c1 => ?_) (fun c1 => ?_)
  · refine aw_aload_n dX6_copyOf_10 0 rfl ?_
    refine aw_iload_n dX6_copyOf_11 1 rfl ?_
    refine aw_callVi [.int x1] [] (sp_X6_refusal (d := d - 1) (by omega) x1 hT (thing_vp c1)) dX6_copyOf_12 ml_X6_162 im_X6_refusal (hT.s 0 (by decide)) (hT.n 0 (by decide)) rfl rfl (dl1 (d := d) (by omega)) rfl rfl (Nat.le_of_ble_eq_true rfl) rfl rfl (Nat.zero_le _) (Nat.zero_le _) ?_
    refine aw_istore_n [(2, .int (sX6_refusal M x1)), (0, .ref 0), (1, .int x1)] dX6_copyOf_15 (Nat.le_of_ble_eq_true rfl) rfl ?_
    refine aw_iload_n dX6_copyOf_16 0 rfl ?_
    refine aw_if_ge 22 dX6_copyOf_17 (by decide) (fun c2 => ?_) (fun c2 => ?_)
    · refine aw_aload_n dX6_copyOf_22 1 rfl ?_
      refine aw_callVi [] [] (sp_X6_free (d := d - 1) (by omega)  hT) dX6_copyOf_23 ml_X6_151 im_X6_free (hT.s 0 (by decide)) (hT.n 0 (by decide)) rfl rfl (dl1 (d := d) (by omega)) rfl rfl (Nat.le_of_ble_eq_true rfl) rfl rfl (Nat.zero_le _) (Nat.zero_le _) ?_
      refine aw_istore_n [(3, .int (sX6_free M)), (2, .int (sX6_refusal M x1)), (0, .ref 0), (1, .int x1)] dX6_copyOf_26 (Nat.le_of_ble_eq_true rfl) rfl ?_
      refine aw_iload_n dX6_copyOf_27 0 rfl ?_
      refine aw_if_ge 34 dX6_copyOf_28 (by decide) (fun c3 => ?_) (fun c3 => ?_)
      · refine aw_aload_n dX6_copyOf_34 2 rfl ?_
        refine aw_iload_n dX6_copyOf_35 0 rfl ?_
        refine aw_aload_n dX6_copyOf_36 2 rfl ?_
        refine aw_getR (b := 1) dX6_copyOf_37 fl_X6_7 rfl (hT.s 0 (by decide)) (hT.n 0 (by decide)) (hT.r 0) ?_
        refine aw_iload_n dX6_copyOf_40 3 rfl ?_
        refine aw_iald dX6_copyOf_41 (hT.s 1 (by decide)) (hT.n 1 (by decide)) (thing_vp c1) ?_
        refine aw_aload_n dX6_copyOf_42 2 rfl ?_
        refine aw_getR (b := 2) dX6_copyOf_43 fl_X6_13 rfl (hT.s 0 (by decide)) (hT.n 0 (by decide)) (hT.r 1) ?_
        refine aw_iload_n dX6_copyOf_46 3 rfl ?_
        refine aw_iald dX6_copyOf_47 (hT.s 2 (by decide)) (hT.n 2 (by decide)) (thing_vp c1) ?_
        refine aw_callVv [.int (sX6_free M), .int (mI M 1 x1.toNatClampNeg), .int (mI M 2 x1.toNatClampNeg)] [] (sp_X6_beginsI (d := d - 1) (by omega) (sX6_free M) (mI M 1 x1.toNatClampNeg) (mI M 2 x1.toNatClampNeg) hT (vp_up (free_vp c3) (by decide))) dX6_copyOf_48 ml_X6_155 im_X6_begins (hT.s 0 (by decide)) (hT.n 0 (by decide)) rfl rfl (dl1 (d := d) (by omega)) rfl rfl (Nat.le_of_ble_eq_true rfl) rfl rfl (Nat.zero_le _) (Nat.zero_le _) ?_
        refine aw_aload_n dX6_copyOf_51 2 rfl ?_
        refine aw_iload_n dX6_copyOf_52 3 rfl ?_
        refine aw_iload_n dX6_copyOf_53 0 rfl ?_
        refine aw_callVv [.int x1, .int (sX6_free M)] [] (sp_X6_copiesI (d := d - 1) (by omega) x1 (sX6_free M) (mI M 2 x1.toNatClampNeg).toNatClampNeg ((sT_X6_begins M (sX6_free M).toNatClampNeg (mI M 1 x1.toNatClampNeg) (mI M 2 x1.toNatClampNeg)).TR hT) (thing_vp c1) (vp_up (free_vp c3) (by decide)) (cp_ne c2 c3) ((begM_2n _ _ _ _ (cp_ne c2 c3)).trans (lenz hZ (thing_vp c1)).1) (lenz hZ (thing_vp c1)).2) dX6_copyOf_54 ml_X6_179 im_X6_copies (((sT_X6_begins M (sX6_free M).toNatClampNeg (mI M 1 x1.toNatClampNeg) (mI M 2 x1.toNatClampNeg)).TR hT).s 0 (by decide)) (((sT_X6_begins M (sX6_free M).toNatClampNeg (mI M 1 x1.toNatClampNeg) (mI M 2 x1.toNatClampNeg)).TR hT).n 0 (by decide)) rfl rfl (dl1 (d := d) (by omega)) rfl rfl (Nat.le_of_ble_eq_true rfl) rfl rfl (Nat.zero_le _) (Nat.zero_le _) ?_
        refine aw_iload_n dX6_copyOf_57 0 rfl ?_
        refine aw_iret dX6_copyOf_58 rfl (Nat.zero_le _) (Nat.zero_le _) ?_
        exact ⟨congrArg (fun z => some (Value.int z)) (show sX6_copyOf M x1 = sX6_free M by unfold sX6_copyOf; rw [if_neg c1, if_pos c2, if_pos c3]).symm, (show tX6_copyOf M x1 = (copM (begM M (sX6_free M).toNatClampNeg (mI M 1 x1.toNatClampNeg) (mI M 2 x1.toNatClampNeg)) x1.toNatClampNeg (sX6_free M).toNatClampNeg (mI M 2 x1.toNatClampNeg).toNatClampNeg) by unfold tX6_copyOf; rw [if_neg c1, if_pos c2, if_pos c3]).symm⟩
      · refine aw_bipush (v := -3) dX6_copyOf_31 (by decide) ?_
        refine aw_iret dX6_copyOf_33 rfl (Nat.zero_le _) (Nat.zero_le _) ?_
        exact ⟨congrArg (fun z => some (Value.int z)) (show sX6_copyOf M x1 = -3 by unfold sX6_copyOf; rw [if_neg c1, if_pos c2, if_neg c3]).symm, (show tX6_copyOf M x1 = M by unfold tX6_copyOf; rw [if_neg c1, if_pos c2, if_neg c3]).symm⟩
    · refine aw_iload_n dX6_copyOf_20 0 rfl ?_
      refine aw_iret dX6_copyOf_21 rfl (Nat.zero_le _) (Nat.zero_le _) ?_
      exact ⟨congrArg (fun z => some (Value.int z)) (show sX6_copyOf M x1 = sX6_refusal M x1 by unfold sX6_copyOf; rw [if_neg c1, if_neg c2]).symm, (show tX6_copyOf M x1 = M by unfold tX6_copyOf; rw [if_neg c1, if_neg c2]).symm⟩
  · refine aw_iconst (v := -1) dX6_copyOf_8 (by decide) ?_
    refine aw_iret dX6_copyOf_9 rfl (Nat.zero_le _) (Nat.zero_le _) ?_
    exact ⟨congrArg (fun z => some (Value.int z)) (show sX6_copyOf M x1 = -1 by unfold sX6_copyOf; rw [if_pos c1]).symm, (show tX6_copyOf M x1 = M by unfold tX6_copyOf; rw [if_pos c1]).symm⟩
