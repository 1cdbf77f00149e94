-- LAY AND PART, BY OUTCOME
theorem sp_X5_lay_e {d : Nat} (hd : 60 ≤ d) {M : xM} (x1 : Int32) (hT : TC M) (he : ¬ sX5_slotError M x1 = 0) : Sp (fX5_lay d) [.ref 0, .int x1] M (dt (some (.int (sX5_slotError M x1))) M) := by
  refine Sp.of pn_X5 (Nat.le_of_ble_eq_true rfl) (fun h => Bool.noConfusion h) ?_
  refine aw_aload_n dX5_lay_0 0 rfl ?_
  refine aw_iload_n dX5_lay_1 1 rfl ?_
  refine aw_callVi [.int x1] [] (sp_X5_slotError (d := d - 1) (by omega) x1 hT) dX5_lay_2 ml_X5_94 im_X5_slotError (hT.s 0 (by decide)) (hT.n 0 (by decide)) rfl rfl (dl1 (d := d) (by omega)) rfl rfl (Nat.le_of_ble_eq_true rfl) rfl rfl (Nat.zero_le _) (Nat.zero_le _) ?_
  refine aw_istore_n [(2, .int (sX5_slotError M x1)), (0, .ref 0), (1, .int x1)] dX5_lay_5 (Nat.le_of_ble_eq_true rfl) rfl ?_
  refine aw_iload_n dX5_lay_6 0 rfl ?_
  refine aw_if_eq 12 dX5_lay_7 (by decide) (fun c1 => absurd c1 he) (fun c1 => ?_)
  refine aw_iload_n dX5_lay_10 0 rfl ?_
  refine aw_iret dX5_lay_11 rfl (Nat.zero_le _) (Nat.zero_le _) ?_
  exact ⟨rfl, rfl⟩
theorem sp_X5_lay_f {d : Nat} (hd : 60 ≤ d) {M : xM} (t m : Nat) {M1 : xM} {len n : Nat} (hT : TC M) (he : sX5_slotError M (nI t) = 0) (hm : mI M 0 11 = nI m) (hw : Sp (fX4_write (d - 1)) [.ref 46, .int (nI t), .int (nI m)] M (dt none M1)) (hT1 : TC M1) (h1 : mI M1 2 1 = nI len) (h2 : mI M1 4 1 = nI n) (b1 : len ≤ 200) (b2 : n ≤ 1464) (hf : 200 < len + n) : Sp (fX5_lay d) [.ref 0, .int (nI t)] M (dt (some (.int (-3))) M1) := by
  refine Sp.of pn_X5 (Nat.le_of_ble_eq_true rfl) (fun h => Bool.noConfusion h) ?_
  refine aw_aload_n dX5_lay_0 0 rfl ?_
  refine aw_iload_n dX5_lay_1 1 rfl ?_
  refine aw_callVi [.int (nI t)] [] (sp_X5_slotError (d := d - 1) (by omega) (nI t) hT) dX5_lay_2 ml_X5_94 im_X5_slotError (hT.s 0 (by decide)) (hT.n 0 (by decide)) rfl rfl (dl1 (d := d) (by omega)) rfl rfl (Nat.le_of_ble_eq_true rfl) rfl rfl (Nat.zero_le _) (Nat.zero_le _) ?_
  refine aw_topE he ?_
  refine aw_istore_n [(2, .int 0), (0, .ref 0), (1, .int (nI t))] dX5_lay_5 (Nat.le_of_ble_eq_true rfl) rfl ?_
  refine aw_iload_n dX5_lay_6 0 rfl ?_
  refine aw_if_eq 12 dX5_lay_7 (by decide) (fun c1 => ?_) (fun c1 => absurd rfl c1)
  refine aw_aload_n dX5_lay_12 1 rfl ?_
  refine aw_getR (b := 46) dX5_lay_13 fl_X5_44 rfl (hT.s 0 (by decide)) (hT.n 0 (by decide)) (hT.r 0 5 (by decide) (by decide)) ?_
  refine aw_iload_n dX5_lay_16 2 rfl ?_
  refine aw_aload_n dX5_lay_17 1 rfl ?_
  refine aw_getI dX5_lay_18 fl_X5_68 (hT.s 0 (by decide)) (hT.n 0 (by decide)) ?_
  refine aw_topE hm ?_
  refine aw_callVv [.int (nI t), .int (nI m)] [] hw dX5_lay_21 ml_X5_219 im_X4_write (hT.s 46 (by decide)) (hT.n 46 (by decide)) rfl rfl (dl1 (d := d) (by omega)) rfl rfl (Nat.le_of_ble_eq_true rfl) rfl rfl (Nat.zero_le _) (Nat.zero_le _) ?_
  refine aw_aload_n dX5_lay_24 1 rfl ?_
  refine aw_getR (b := 2) dX5_lay_25 fl_X5_20 rfl (hT1.s 0 (by decide)) (hT1.n 0 (by decide)) (hT1.r 0 1 (by decide) (by decide)) ?_
  refine aw_aload_n dX5_lay_28 1 rfl ?_
  refine aw_getR (b := 4) dX5_lay_29 fl_X5_24 rfl (hT1.s 0 (by decide)) (hT1.n 0 (by decide)) (hT1.r 0 2 (by decide) (by decide)) ?_
  refine aw_callVi [.ref 4] [] (sp_ap4_f (d := d - 1) hT1 h1 h2 b1 b2 hf) dX5_lay_32 ml_X5_222 im_X3_append (hT1.s 2 (by decide)) (hT1.n 2 (by decide)) rfl rfl (dl1 (d := d) (by omega)) rfl rfl (Nat.le_of_ble_eq_true rfl) rfl rfl (Nat.zero_le _) (Nat.zero_le _) ?_
  refine aw_if_eq 48 dX5_lay_35 (by decide) (fun c2 => ?_) (fun c2 => absurd rfl c2)
  refine aw_bipush (v := -3) dX5_lay_48 (by decide) ?_
  refine aw_iret dX5_lay_50 rfl (Nat.zero_le _) (Nat.zero_le _) ?_
  exact ⟨rfl, rfl⟩
theorem sp_X5_lay_k {d : Nat} (hd : 60 ≤ d) {M : xM} (t m : Nat) {M1 : xM} {len n : Nat} (hT : TC M) (he : sX5_slotError M (nI t) = 0) (hm : mI M 0 11 = nI m) (hw : Sp (fX4_write (d - 1)) [.ref 46, .int (nI t), .int (nI m)] M (dt none M1)) (hT1 : TC M1) (h1 : mI M1 2 1 = nI len) (h2 : mI M1 4 1 = nI n) (b1 : len ≤ 200) (b2 : n ≤ 1464) (hf : len + n ≤ 200) : Sp (fX5_lay d) [.ref 0, .int (nI t)] M (dt (some (.int (nI n))) (apM M1 4 len n)) := by
  refine Sp.of pn_X5 (Nat.le_of_ble_eq_true rfl) (fun h => Bool.noConfusion h) ?_
  refine aw_aload_n dX5_lay_0 0 rfl ?_
  refine aw_iload_n dX5_lay_1 1 rfl ?_
  refine aw_callVi [.int (nI t)] [] (sp_X5_slotError (d := d - 1) (by omega) (nI t) hT) dX5_lay_2 ml_X5_94 im_X5_slotError (hT.s 0 (by decide)) (hT.n 0 (by decide)) rfl rfl (dl1 (d := d) (by omega)) rfl rfl (Nat.le_of_ble_eq_true rfl) rfl rfl (Nat.zero_le _) (Nat.zero_le _) ?_
  refine aw_topE he ?_
  refine aw_istore_n [(2, .int 0), (0, .ref 0), (1, .int (nI t))] dX5_lay_5 (Nat.le_of_ble_eq_true rfl) rfl ?_
  refine aw_iload_n dX5_lay_6 0 rfl ?_
  refine aw_if_eq 12 dX5_lay_7 (by decide) (fun c1 => ?_) (fun c1 => absurd rfl c1)
  refine aw_aload_n dX5_lay_12 1 rfl ?_
  refine aw_getR (b := 46) dX5_lay_13 fl_X5_44 rfl (hT.s 0 (by decide)) (hT.n 0 (by decide)) (hT.r 0 5 (by decide) (by decide)) ?_
  refine aw_iload_n dX5_lay_16 2 rfl ?_
  refine aw_aload_n dX5_lay_17 1 rfl ?_
  refine aw_getI dX5_lay_18 fl_X5_68 (hT.s 0 (by decide)) (hT.n 0 (by decide)) ?_
  refine aw_topE hm ?_
  refine aw_callVv [.int (nI t), .int (nI m)] [] hw dX5_lay_21 ml_X5_219 im_X4_write (hT.s 46 (by decide)) (hT.n 46 (by decide)) rfl rfl (dl1 (d := d) (by omega)) rfl rfl (Nat.le_of_ble_eq_true rfl) rfl rfl (Nat.zero_le _) (Nat.zero_le _) ?_
  refine aw_aload_n dX5_lay_24 1 rfl ?_
  refine aw_getR (b := 2) dX5_lay_25 fl_X5_20 rfl (hT1.s 0 (by decide)) (hT1.n 0 (by decide)) (hT1.r 0 1 (by decide) (by decide)) ?_
  refine aw_aload_n dX5_lay_28 1 rfl ?_
  refine aw_getR (b := 4) dX5_lay_29 fl_X5_24 rfl (hT1.s 0 (by decide)) (hT1.n 0 (by decide)) (hT1.r 0 2 (by decide) (by decide)) ?_
  refine aw_callVi [.ref 4] [] (sp_ap4_k (d := d - 1) (by omega) hT1 h1 h2 b1 b2 hf) dX5_lay_32 ml_X5_222 im_X3_append (hT1.s 2 (by decide)) (hT1.n 2 (by decide)) rfl rfl (dl1 (d := d) (by omega)) rfl rfl (Nat.le_of_ble_eq_true rfl) rfl rfl (Nat.zero_le _) (Nat.zero_le _) ?_
  refine aw_if_eq 48 dX5_lay_35 (by decide) (fun c2 => absurd c2 (by decide)) (fun c2 => ?_)
  refine aw_aload_n dX5_lay_38 1 rfl ?_
  refine aw_getR (b := 4) dX5_lay_39 fl_X5_24 rfl (((sT_apM M1 4 len n).TC hT1).s 0 (by decide)) (((sT_apM M1 4 len n).TC hT1).n 0 (by decide)) (((sT_apM M1 4 len n).TC hT1).r 0 2 (by decide) (by decide)) ?_
  refine aw_getI dX5_lay_42 fl_X5_226 (((sT_apM M1 4 len n).TC hT1).s 4 (by decide)) (((sT_apM M1 4 len n).TC hT1).n 4 (by decide)) ?_
  refine aw_topE ((congrFun (show mI (apM M1 4 len n) 4 = mI M1 4 from mI_stI_c _ _ _ (by decide)) 1).trans h2) ?_
  refine aw_goto 50 dX5_lay_45 (by decide) ?_
  refine aw_iret dX5_lay_50 rfl (Nat.zero_le _) (Nat.zero_le _) ?_
  exact ⟨rfl, rfl⟩
theorem sp_X6_lay_b {d : Nat} (hd : 60 ≤ d) {M : xM} (x1 : Int32) (hT : TR M) (hs : sX6_isThing x1.toInt64 = false) : Sp (fX6_lay d) [.ref 0, .int x1] M (dt (some (.int (-1))) M) := by
  refine Sp.of pn_X6 (Nat.le_of_ble_eq_true rfl) (fun h => Bool.noConfusion h) ?_
  refine aw_iload_n dX6_lay_0 1 rfl ?_
  refine aw_i2l dX6_lay_1 ?_
  refine aw_callSi [.long (Int32.toInt64 x1)] [] (sp_X6_isThing (d := d - 1) (by omega) (Int32.toInt64 x1) ) dX6_lay_2 ml_X6_159 sm_X6_isThing rfl (dl1 (d := d) (by omega)) rfl rfl (Nat.le_of_ble_eq_true rfl) rfl rfl (Nat.zero_le _) (Nat.zero_le _) ?_
  refine aw_if_ne 10 dX6_lay_5 (by decide) (fun c1 => absurd (bz_0.mpr hs) c1) (fun c1 => ?_)
  refine aw_iconst (v := -1) dX6_lay_8 (by decide) ?_
  refine aw_iret dX6_lay_9 rfl (Nat.zero_le _) (Nat.zero_le _) ?_
  exact ⟨rfl, rfl⟩
theorem sp_X6_lay_e {d : Nat} (hd : 60 ≤ d) {M : xM} (t : Nat) (hT : TR M) (ht : t < 12) (hs : sX6_isThing (lN t) = true) (hk : mI M 1 t = -1) : Sp (fX6_lay d) [.ref 0, .int (nI t)] M (dt (some (.int (-5))) M) := by
  refine Sp.of pn_X6 (Nat.le_of_ble_eq_true rfl) (fun h => Bool.noConfusion h) ?_
  refine aw_iload_n dX6_lay_0 1 rfl ?_
  refine aw_i2lN t dX6_lay_1 rfl (by omega) ?_
  refine aw_callSi [.long (lN t)] [] (sp_X6_isThing (d := d - 1) (by omega) (lN t) ) dX6_lay_2 ml_X6_159 sm_X6_isThing rfl (dl1 (d := d) (by omega)) rfl rfl (Nat.le_of_ble_eq_true rfl) rfl rfl (Nat.zero_le _) (Nat.zero_le _) ?_
  refine aw_if_ne 10 dX6_lay_5 (by decide) (fun c1 => ?_) (fun c1 => absurd c1 (bz_n0.mpr hs))
  refine aw_aload_n dX6_lay_10 0 rfl ?_
  refine aw_getR (b := 1) dX6_lay_11 fl_X6_7 rfl (hT.s 0 (by decide)) (hT.n 0 (by decide)) (hT.r 0) ?_
  refine aw_iload_n dX6_lay_14 1 rfl ?_
  refine aw_ialdN t dX6_lay_15 (hT.s 1 (by decide)) (hT.n 1 (by decide)) rfl (by omega) (by first | decide | omega) ?_
  refine aw_topE hk ?_
  refine aw_if_ge 22 dX6_lay_16 (by decide) (fun c2 => absurd c2 (by decide)) (fun c2 => ?_)
  refine aw_bipush (v := -5) dX6_lay_19 (by decide) ?_
  refine aw_iret dX6_lay_21 rfl (Nat.zero_le _) (Nat.zero_le _) ?_
  exact ⟨rfl, rfl⟩
theorem sp_X6_lay_k {d : Nat} (hd : 60 ≤ d) {M : xM} (t m k : Nat) {x y : Int32} {Q1 Q2 : xM → Prop} (hT : TR M) (ht : t < 12) (hs : sX6_isThing (lN t) = true) (hk : mI M 1 t = nI k) (hk2 : k < 16) (hm : mI M 0 8 = nI m) (hla : Sp (fX6_laysAll (d - 1)) [.ref 0, .int (nI t), .int (nI m)] M (fun r A => r = some (.int x) ∧ Q1 A)) (hT1 : ∀ A, Q1 A → TR A) (hco : ∀ A, Q1 A → Sp (fX6_comes (d - 1)) [.ref 0] A (fun r B => r = some (.int y) ∧ Q2 B)) : Sp (fX6_lay d) [.ref 0, .int (nI t)] M (fun r B => r = some (.int y) ∧ Q2 B) := by
  refine Sp.of pn_X6 (Nat.le_of_ble_eq_true rfl) (fun h => Bool.noConfusion h) ?_
  refine aw_iload_n dX6_lay_0 1 rfl ?_
  refine aw_i2lN t dX6_lay_1 rfl (by omega) ?_
  refine aw_callSi [.long (lN t)] [] (sp_X6_isThing (d := d - 1) (by omega) (lN t) ) dX6_lay_2 ml_X6_159 sm_X6_isThing rfl (dl1 (d := d) (by omega)) rfl rfl (Nat.le_of_ble_eq_true rfl) rfl rfl (Nat.zero_le _) (Nat.zero_le _) ?_
  refine aw_if_ne 10 dX6_lay_5 (by decide) (fun c1 => ?_) (fun c1 => absurd c1 (bz_n0.mpr hs))
  refine aw_aload_n dX6_lay_10 0 rfl ?_
  refine aw_getR (b := 1) dX6_lay_11 fl_X6_7 rfl (hT.s 0 (by decide)) (hT.n 0 (by decide)) (hT.r 0) ?_
  refine aw_iload_n dX6_lay_14 1 rfl ?_
  refine aw_ialdN t dX6_lay_15 (hT.s 1 (by decide)) (hT.n 1 (by decide)) rfl (by omega) (by first | decide | omega) ?_
  refine aw_topE hk ?_
  refine aw_if_ge 22 dX6_lay_16 (by decide) (fun c2 => ?_) (fun c2 => absurd (Int32.not_lt.mp (nI_nn (by omega))) c2)
  refine aw_aload_n dX6_lay_22 0 rfl ?_
  refine aw_iload_n dX6_lay_23 1 rfl ?_
  refine aw_aload_n dX6_lay_24 0 rfl ?_
  refine aw_getI dX6_lay_25 fl_X6_357 (hT.s 0 (by decide)) (hT.n 0 (by decide)) ?_
  refine aw_topE hm ?_
  refine aw_callVx [.int (nI t), .int (nI m)] [] hla dX6_lay_28 ml_X6_360 im_X6_laysAll (hT.s 0 (by decide)) (hT.n 0 (by decide)) rfl rfl (dl1 (d := d) (by omega)) rfl rfl (Nat.le_of_ble_eq_true rfl) rfl rfl (Nat.zero_le _) (Nat.zero_le _) (fun r M1 hq => ?_)
  obtain ⟨rfl, hq⟩ := hq
  refine aw_cons ?_
  refine aw_pop dX6_lay_31 rfl ?_
  refine aw_aload_n dX6_lay_32 0 rfl ?_
  refine aw_callVx [] [] (hco M1 hq) dX6_lay_33 ml_X6_363 im_X6_comes ((hT1 M1 hq).s 0 (by decide)) ((hT1 M1 hq).n 0 (by decide)) rfl rfl (dl1 (d := d) (by omega)) rfl rfl (Nat.le_of_ble_eq_true rfl) rfl rfl (Nat.zero_le _) (Nat.zero_le _) (fun r M2 hp => ?_)
  obtain ⟨rfl, hp⟩ := hp
  refine aw_cons ?_
  refine aw_iret dX6_lay_36 rfl (Nat.zero_le _) (Nat.zero_le _) ?_
  exact ⟨rfl, hp⟩
theorem sp_X5_part_e {d : Nat} (hd : 60 ≤ d) {M : xM} (x1 x2 : Int32) (hT : TC M) (he : ¬ sX5_slotPairError M x1 x2 = 0) : Sp (fX5_part d) [.ref 0, .int x1, .int x2] M (dt (some (.int (sX5_slotPairError M x1 x2))) M) := by
  refine Sp.of pn_X5 (Nat.le_of_ble_eq_true rfl) (fun h => Bool.noConfusion h) ?_
  refine aw_aload_n dX5_part_0 0 rfl ?_
  refine aw_iload_n dX5_part_1 1 rfl ?_
  refine aw_iload_n dX5_part_2 2 rfl ?_
  refine aw_callVi [.int x1, .int x2] [] (sp_X5_slotPairError (d := d - 1) (by omega) x1 x2 hT) dX5_part_3 ml_X5_264 im_X5_slotPairError (hT.s 0 (by decide)) (hT.n 0 (by decide)) rfl rfl (dl1 (d := d) (by omega)) rfl rfl (Nat.le_of_ble_eq_true rfl) rfl rfl (Nat.zero_le _) (Nat.zero_le _) ?_
  refine aw_istore_n [(3, .int (sX5_slotPairError M x1 x2)), (0, .ref 0), (1, .int x1), (2, .int x2)] dX5_part_6 (Nat.le_of_ble_eq_true rfl) rfl ?_
  refine aw_iload_n dX5_part_7 0 rfl ?_
  refine aw_if_eq 13 dX5_part_8 (by decide) (fun c1 => absurd c1 he) (fun c1 => ?_)
  refine aw_iload_n dX5_part_11 0 rfl ?_
  refine aw_iret dX5_part_12 rfl (Nat.zero_le _) (Nat.zero_le _) ?_
  exact ⟨rfl, rfl⟩
theorem sp_X5_part_k {d : Nat} (hd : 60 ≤ d) {M : xM} (t u : Nat) {M1 M2 : xM} {x : Int32} (hT : TC M) (he : sX5_slotPairError M (nI t) (nI u) = 0) (hw : Sp (fX4_write (d - 1)) [.ref 46, .int (nI t), .int (nI 0)] M (dt none M1)) (hT1 : TC M1) (hw2 : Sp (fX4_write (d - 1)) [.ref 48, .int (nI u), .int (nI 0)] M1 (dt none M2)) (hT2 : TC M2) (hfd : Sp (fX3_firstDifference (d - 1)) [.ref 4, .ref 6] M2 (dt (some (.int x)) M2)) : Sp (fX5_part d) [.ref 0, .int (nI t), .int (nI u)] M (dt (some (.int x)) M2) := by
  refine Sp.of pn_X5 (Nat.le_of_ble_eq_true rfl) (fun h => Bool.noConfusion h) ?_
  refine aw_aload_n dX5_part_0 0 rfl ?_
  refine aw_iload_n dX5_part_1 1 rfl ?_
  refine aw_iload_n dX5_part_2 2 rfl ?_
  refine aw_callVi [.int (nI t), .int (nI u)] [] (sp_X5_slotPairError (d := d - 1) (by omega) (nI t) (nI u) hT) dX5_part_3 ml_X5_264 im_X5_slotPairError (hT.s 0 (by decide)) (hT.n 0 (by decide)) rfl rfl (dl1 (d := d) (by omega)) rfl rfl (Nat.le_of_ble_eq_true rfl) rfl rfl (Nat.zero_le _) (Nat.zero_le _) ?_
  refine aw_topE he ?_
  refine aw_istore_n [(3, .int 0), (0, .ref 0), (1, .int (nI t)), (2, .int (nI u))] dX5_part_6 (Nat.le_of_ble_eq_true rfl) rfl ?_
  refine aw_iload_n dX5_part_7 0 rfl ?_
  refine aw_if_eq 13 dX5_part_8 (by decide) (fun c1 => ?_) (fun c1 => absurd rfl c1)
  refine aw_aload_n dX5_part_13 1 rfl ?_
  refine aw_getR (b := 46) dX5_part_14 fl_X5_44 rfl (hT.s 0 (by decide)) (hT.n 0 (by decide)) (hT.r 0 5 (by decide) (by decide)) ?_
  refine aw_iload_n dX5_part_17 2 rfl ?_
  refine aw_iconst (v := 0) dX5_part_18 (by decide) ?_
  refine aw_callVv [.int (nI t), .int 0] [] hw dX5_part_19 ml_X5_219 im_X4_write (hT.s 46 (by decide)) (hT.n 46 (by decide)) rfl rfl (dl1 (d := d) (by omega)) rfl rfl (Nat.le_of_ble_eq_true rfl) rfl rfl (Nat.zero_le _) (Nat.zero_le _) ?_
  refine aw_aload_n dX5_part_22 1 rfl ?_
  refine aw_getR (b := 48) dX5_part_23 fl_X5_48 rfl (hT1.s 0 (by decide)) (hT1.n 0 (by decide)) (hT1.r 0 6 (by decide) (by decide)) ?_
  refine aw_iload_n dX5_part_26 3 rfl ?_
  refine aw_iconst (v := 0) dX5_part_27 (by decide) ?_
  refine aw_callVv [.int (nI u), .int 0] [] hw2 dX5_part_28 ml_X5_219 im_X4_write (hT1.s 48 (by decide)) (hT1.n 48 (by decide)) rfl rfl (dl1 (d := d) (by omega)) rfl rfl (Nat.le_of_ble_eq_true rfl) rfl rfl (Nat.zero_le _) (Nat.zero_le _) ?_
  refine aw_aload_n dX5_part_31 1 rfl ?_
  refine aw_getR (b := 4) dX5_part_32 fl_X5_24 rfl (hT2.s 0 (by decide)) (hT2.n 0 (by decide)) (hT2.r 0 2 (by decide) (by decide)) ?_
  refine aw_aload_n dX5_part_35 1 rfl ?_
  refine aw_getR (b := 6) dX5_part_36 fl_X5_27 rfl (hT2.s 0 (by decide)) (hT2.n 0 (by decide)) (hT2.r 0 3 (by decide) (by decide)) ?_
  refine aw_callVi [.ref 6] [] hfd dX5_part_39 ml_X5_260 im_X3_firstDifference (hT2.s 4 (by decide)) (hT2.n 4 (by decide)) rfl rfl (dl1 (d := d) (by omega)) rfl rfl (Nat.le_of_ble_eq_true rfl) rfl rfl (Nat.zero_le _) (Nat.zero_le _) ?_
  refine aw_iret dX5_part_42 rfl (Nat.zero_le _) (Nat.zero_le _) ?_
  exact ⟨rfl, rfl⟩
theorem sp_X6_part_b1 {d : Nat} (hd : 60 ≤ d) {M : xM} (x1 x2 : Int32) (hT : TR M) (hs : sX6_isThing x1.toInt64 = false) : Sp (fX6_part d) [.ref 0, .int x1, .int x2] M (dt (some (.int (-1))) M) := by
  refine Sp.of pn_X6 (Nat.le_of_ble_eq_true rfl) (fun h => Bool.noConfusion h) ?_
  refine aw_iload_n dX6_part_0 1 rfl ?_
  refine aw_i2l dX6_part_1 ?_
  refine aw_callSi [.long (Int32.toInt64 x1)] [] (sp_X6_isThing (d := d - 1) (by omega) (Int32.toInt64 x1) ) dX6_part_2 ml_X6_159 sm_X6_isThing rfl (dl1 (d := d) (by omega)) rfl rfl (Nat.le_of_ble_eq_true rfl) rfl rfl (Nat.zero_le _) (Nat.zero_le _) ?_
  refine aw_if_eq 16 dX6_part_5 (by decide) (fun c1 => ?_) (fun c1 => absurd (bz_0.mpr hs) c1)
  refine aw_iconst (v := -1) dX6_part_16 (by decide) ?_
  refine aw_iret dX6_part_17 rfl (Nat.zero_le _) (Nat.zero_le _) ?_
  exact ⟨rfl, rfl⟩
theorem sp_X6_part_b2 {d : Nat} (hd : 60 ≤ d) {M : xM} (x1 x2 : Int32) (hT : TR M) (hs : sX6_isThing x1.toInt64 = true) (hs2 : sX6_isThing x2.toInt64 = false) : Sp (fX6_part d) [.ref 0, .int x1, .int x2] M (dt (some (.int (-1))) M) := by
  refine Sp.of pn_X6 (Nat.le_of_ble_eq_true rfl) (fun h => Bool.noConfusion h) ?_
  refine aw_iload_n dX6_part_0 1 rfl ?_
  refine aw_i2l dX6_part_1 ?_
  refine aw_callSi [.long (Int32.toInt64 x1)] [] (sp_X6_isThing (d := d - 1) (by omega) (Int32.toInt64 x1) ) dX6_part_2 ml_X6_159 sm_X6_isThing rfl (dl1 (d := d) (by omega)) rfl rfl (Nat.le_of_ble_eq_true rfl) rfl rfl (Nat.zero_le _) (Nat.zero_le _) ?_
  refine aw_if_eq 16 dX6_part_5 (by decide) (fun c1 => absurd c1 (bz_n0.mpr hs)) (fun c1 => ?_)
  refine aw_iload_n dX6_part_8 2 rfl ?_
  refine aw_i2l dX6_part_9 ?_
  refine aw_callSi [.long (Int32.toInt64 x2)] [] (sp_X6_isThing (d := d - 1) (by omega) (Int32.toInt64 x2) ) dX6_part_10 ml_X6_159 sm_X6_isThing rfl (dl1 (d := d) (by omega)) rfl rfl (Nat.le_of_ble_eq_true rfl) rfl rfl (Nat.zero_le _) (Nat.zero_le _) ?_
  refine aw_if_ne 18 dX6_part_13 (by decide) (fun c2 => absurd (bz_0.mpr hs2) c2) (fun c2 => ?_)
  refine aw_iconst (v := -1) dX6_part_16 (by decide) ?_
  refine aw_iret dX6_part_17 rfl (Nat.zero_le _) (Nat.zero_le _) ?_
  exact ⟨rfl, rfl⟩
theorem sp_X6_part_e1 {d : Nat} (hd : 60 ≤ d) {M : xM} (t u : Nat) (hT : TR M) (ht : t < 12) (hu : u < 12) (hs : sX6_isThing (lN t) = true) (hs2 : sX6_isThing (lN u) = true) (hk : mI M 1 t = -1) : Sp (fX6_part d) [.ref 0, .int (nI t), .int (nI u)] M (dt (some (.int (-5))) M) := by
  refine Sp.of pn_X6 (Nat.le_of_ble_eq_true rfl) (fun h => Bool.noConfusion h) ?_
  refine aw_iload_n dX6_part_0 1 rfl ?_
  refine aw_i2lN t dX6_part_1 rfl (by omega) ?_
  refine aw_callSi [.long (lN t)] [] (sp_X6_isThing (d := d - 1) (by omega) (lN t) ) dX6_part_2 ml_X6_159 sm_X6_isThing rfl (dl1 (d := d) (by omega)) rfl rfl (Nat.le_of_ble_eq_true rfl) rfl rfl (Nat.zero_le _) (Nat.zero_le _) ?_
  refine aw_if_eq 16 dX6_part_5 (by decide) (fun c1 => absurd c1 (bz_n0.mpr hs)) (fun c1 => ?_)
  refine aw_iload_n dX6_part_8 2 rfl ?_
  refine aw_i2lN u dX6_part_9 rfl (by omega) ?_
  refine aw_callSi [.long (lN u)] [] (sp_X6_isThing (d := d - 1) (by omega) (lN u) ) dX6_part_10 ml_X6_159 sm_X6_isThing rfl (dl1 (d := d) (by omega)) rfl rfl (Nat.le_of_ble_eq_true rfl) rfl rfl (Nat.zero_le _) (Nat.zero_le _) ?_
  refine aw_if_ne 18 dX6_part_13 (by decide) (fun c2 => ?_) (fun c2 => absurd c2 (bz_n0.mpr hs2))
  refine aw_aload_n dX6_part_18 0 rfl ?_
  refine aw_getR (b := 1) dX6_part_19 fl_X6_7 rfl (hT.s 0 (by decide)) (hT.n 0 (by decide)) (hT.r 0) ?_
  refine aw_iload_n dX6_part_22 1 rfl ?_
  refine aw_ialdN t dX6_part_23 (hT.s 1 (by decide)) (hT.n 1 (by decide)) rfl (by omega) (by first | decide | omega) ?_
  refine aw_topE hk ?_
  refine aw_if_lt 36 dX6_part_24 (by decide) (fun c3 => ?_) (fun c3 => absurd (by decide) c3)
  refine aw_bipush (v := -5) dX6_part_36 (by decide) ?_
  refine aw_iret dX6_part_38 rfl (Nat.zero_le _) (Nat.zero_le _) ?_
  exact ⟨rfl, rfl⟩
theorem sp_X6_part_e2 {d : Nat} (hd : 60 ≤ d) {M : xM} (t u k : Nat) (hT : TR M) (ht : t < 12) (hu : u < 12) (hs : sX6_isThing (lN t) = true) (hs2 : sX6_isThing (lN u) = true) (hk : mI M 1 t = nI k) (hk2 : k < 16) (hu2 : mI M 1 u = -1) : Sp (fX6_part d) [.ref 0, .int (nI t), .int (nI u)] M (dt (some (.int (-5))) M) := by
  refine Sp.of pn_X6 (Nat.le_of_ble_eq_true rfl) (fun h => Bool.noConfusion h) ?_
  refine aw_iload_n dX6_part_0 1 rfl ?_
  refine aw_i2lN t dX6_part_1 rfl (by omega) ?_
  refine aw_callSi [.long (lN t)] [] (sp_X6_isThing (d := d - 1) (by omega) (lN t) ) dX6_part_2 ml_X6_159 sm_X6_isThing rfl (dl1 (d := d) (by omega)) rfl rfl (Nat.le_of_ble_eq_true rfl) rfl rfl (Nat.zero_le _) (Nat.zero_le _) ?_
  refine aw_if_eq 16 dX6_part_5 (by decide) (fun c1 => absurd c1 (bz_n0.mpr hs)) (fun c1 => ?_)
  refine aw_iload_n dX6_part_8 2 rfl ?_
  refine aw_i2lN u dX6_part_9 rfl (by omega) ?_
  refine aw_callSi [.long (lN u)] [] (sp_X6_isThing (d := d - 1) (by omega) (lN u) ) dX6_part_10 ml_X6_159 sm_X6_isThing rfl (dl1 (d := d) (by omega)) rfl rfl (Nat.le_of_ble_eq_true rfl) rfl rfl (Nat.zero_le _) (Nat.zero_le _) ?_
  refine aw_if_ne 18 dX6_part_13 (by decide) (fun c2 => ?_) (fun c2 => absurd c2 (bz_n0.mpr hs2))
  refine aw_aload_n dX6_part_18 0 rfl ?_
  refine aw_getR (b := 1) dX6_part_19 fl_X6_7 rfl (hT.s 0 (by decide)) (hT.n 0 (by decide)) (hT.r 0) ?_
  refine aw_iload_n dX6_part_22 1 rfl ?_
  refine aw_ialdN t dX6_part_23 (hT.s 1 (by decide)) (hT.n 1 (by decide)) rfl (by omega) (by first | decide | omega) ?_
  refine aw_topE hk ?_
  refine aw_if_lt 36 dX6_part_24 (by decide) (fun c3 => absurd c3 (nI_nn (by omega))) (fun c3 => ?_)
  refine aw_aload_n dX6_part_27 0 rfl ?_
  refine aw_getR (b := 1) dX6_part_28 fl_X6_7 rfl (hT.s 0 (by decide)) (hT.n 0 (by decide)) (hT.r 0) ?_
  refine aw_iload_n dX6_part_31 2 rfl ?_
  refine aw_ialdN u dX6_part_32 (hT.s 1 (by decide)) (hT.n 1 (by decide)) rfl (by omega) (by first | decide | omega) ?_
  refine aw_topE hu2 ?_
  refine aw_if_ge 39 dX6_part_33 (by decide) (fun c4 => absurd c4 (by decide)) (fun c4 => ?_)
  refine aw_bipush (v := -5) dX6_part_36 (by decide) ?_
  refine aw_iret dX6_part_38 rfl (Nat.zero_le _) (Nat.zero_le _) ?_
  exact ⟨rfl, rfl⟩
theorem sp_X6_part_k {d : Nat} (hd : 60 ≤ d) {M : xM} (t u k k2 : Nat) {x y z : Int32} {Q1 Q2 Q3 : xM → Prop} (hT : TR M) (ht : t < 12) (hu : u < 12) (hs : sX6_isThing (lN t) = true) (hs2 : sX6_isThing (lN u) = true) (hk : mI M 1 t = nI k) (hkl : k < 16) (hu2 : mI M 1 u = nI k2) (hul : k2 < 16) (hla : Sp (fX6_laysAll (d - 1)) [.ref 0, .int (nI t), .int (nI 0)] M (fun r A => r = some (.int x) ∧ Q1 A)) (hT1 : ∀ A, Q1 A → TR A) (hho : ∀ A, Q1 A → Sp (fX6_holds (d - 1)) [.ref 0] A (fun r B => r = none ∧ Q2 B)) (hT2 : ∀ A, Q2 A → TR A) (hla2 : ∀ A, Q2 A → Sp (fX6_laysAll (d - 1)) [.ref 0, .int (nI u), .int (nI 0)] A (fun r B => r = some (.int y) ∧ Q3 B)) (hT3 : ∀ A, Q3 A → TR A) (hun : ∀ A, Q3 A → Sp (fX6_unlike (d - 1)) [.ref 0] A (dt (some (.int z)) A)) : Sp (fX6_part d) [.ref 0, .int (nI t), .int (nI u)] M (fun r B => r = some (.int (if z < 0 then -4 else z)) ∧ Q3 B) := by
  refine Sp.of pn_X6 (Nat.le_of_ble_eq_true rfl) (fun h => Bool.noConfusion h) ?_
  refine aw_iload_n dX6_part_0 1 rfl ?_
  refine aw_i2lN t dX6_part_1 rfl (by omega) ?_
  refine aw_callSi [.long (lN t)] [] (sp_X6_isThing (d := d - 1) (by omega) (lN t) ) dX6_part_2 ml_X6_159 sm_X6_isThing rfl (dl1 (d := d) (by omega)) rfl rfl (Nat.le_of_ble_eq_true rfl) rfl rfl (Nat.zero_le _) (Nat.zero_le _) ?_
  refine aw_if_eq 16 dX6_part_5 (by decide) (fun c1 => absurd c1 (bz_n0.mpr hs)) (fun c1 => ?_)
  refine aw_iload_n dX6_part_8 2 rfl ?_
  refine aw_i2lN u dX6_part_9 rfl (by omega) ?_
  refine aw_callSi [.long (lN u)] [] (sp_X6_isThing (d := d - 1) (by omega) (lN u) ) dX6_part_10 ml_X6_159 sm_X6_isThing rfl (dl1 (d := d) (by omega)) rfl rfl (Nat.le_of_ble_eq_true rfl) rfl rfl (Nat.zero_le _) (Nat.zero_le _) ?_
  refine aw_if_ne 18 dX6_part_13 (by decide) (fun c2 => ?_) (fun c2 => absurd c2 (bz_n0.mpr hs2))
  refine aw_aload_n dX6_part_18 0 rfl ?_
  refine aw_getR (b := 1) dX6_part_19 fl_X6_7 rfl (hT.s 0 (by decide)) (hT.n 0 (by decide)) (hT.r 0) ?_
  refine aw_iload_n dX6_part_22 1 rfl ?_
  refine aw_ialdN t dX6_part_23 (hT.s 1 (by decide)) (hT.n 1 (by decide)) rfl (by omega) (by first | decide | omega) ?_
  refine aw_topE hk ?_
  refine aw_if_lt 36 dX6_part_24 (by decide) (fun c3 => absurd c3 (nI_nn (by omega))) (fun c3 => ?_)
  refine aw_aload_n dX6_part_27 0 rfl ?_
  refine aw_getR (b := 1) dX6_part_28 fl_X6_7 rfl (hT.s 0 (by decide)) (hT.n 0 (by decide)) (hT.r 0) ?_
  refine aw_iload_n dX6_part_31 2 rfl ?_
  refine aw_ialdN u dX6_part_32 (hT.s 1 (by decide)) (hT.n 1 (by decide)) rfl (by omega) (by first | decide | omega) ?_
  refine aw_topE hu2 ?_
  refine aw_if_ge 39 dX6_part_33 (by decide) (fun c4 => ?_) (fun c4 => absurd (Int32.not_lt.mp (nI_nn (by omega))) c4)
  refine aw_aload_n dX6_part_39 0 rfl ?_
  refine aw_iload_n dX6_part_40 1 rfl ?_
  refine aw_iconst (v := 0) dX6_part_41 (by decide) ?_
  refine aw_callVx [.int (nI t), .int 0] [] hla dX6_part_42 ml_X6_360 im_X6_laysAll (hT.s 0 (by decide)) (hT.n 0 (by decide)) rfl rfl (dl1 (d := d) (by omega)) rfl rfl (Nat.le_of_ble_eq_true rfl) rfl rfl (Nat.zero_le _) (Nat.zero_le _) (fun r M1 hq1 => ?_)
  obtain ⟨rfl, hq1⟩ := hq1
  refine aw_cons ?_
  refine aw_pop dX6_part_45 rfl ?_
  refine aw_aload_n dX6_part_46 0 rfl ?_
  refine aw_callVx [] [] (hho M1 hq1) dX6_part_47 ml_X6_379 im_X6_holds ((hT1 M1 hq1).s 0 (by decide)) ((hT1 M1 hq1).n 0 (by decide)) rfl rfl (dl1 (d := d) (by omega)) rfl rfl (Nat.le_of_ble_eq_true rfl) rfl rfl (Nat.zero_le _) (Nat.zero_le _) (fun r M2 hq2 => ?_)
  obtain ⟨rfl, hq2⟩ := hq2
  refine aw_nil ?_
  refine aw_aload_n dX6_part_50 0 rfl ?_
  refine aw_iload_n dX6_part_51 2 rfl ?_
  refine aw_iconst (v := 0) dX6_part_52 (by decide) ?_
  refine aw_callVx [.int (nI u), .int 0] [] (hla2 M2 hq2) dX6_part_53 ml_X6_360 im_X6_laysAll ((hT2 M2 hq2).s 0 (by decide)) ((hT2 M2 hq2).n 0 (by decide)) rfl rfl (dl1 (d := d) (by omega)) rfl rfl (Nat.le_of_ble_eq_true rfl) rfl rfl (Nat.zero_le _) (Nat.zero_le _) (fun r M3 hq3 => ?_)
  obtain ⟨rfl, hq3⟩ := hq3
  refine aw_cons ?_
  refine aw_pop dX6_part_56 rfl ?_
  refine aw_aload_n dX6_part_57 0 rfl ?_
  refine aw_callVi [] [] (hun M3 hq3) dX6_part_58 ml_X6_382 im_X6_unlike ((hT3 M3 hq3).s 0 (by decide)) ((hT3 M3 hq3).n 0 (by decide)) rfl rfl (dl1 (d := d) (by omega)) rfl rfl (Nat.le_of_ble_eq_true rfl) rfl rfl (Nat.zero_le _) (Nat.zero_le _) ?_
  refine aw_istore_n [(3, .int z), (0, .ref 0), (1, .int (nI t)), (2, .int (nI u))] dX6_part_61 (Nat.le_of_ble_eq_true rfl) rfl ?_
  refine aw_iload_n dX6_part_62 0 rfl ?_
  refine aw_if_ge 71 dX6_part_63 (by decide) (fun c5 => ?_) (fun c5 => ?_)
  · refine aw_iload_n dX6_part_71 0 rfl ?_
    refine aw_iret dX6_part_72 rfl (Nat.zero_le _) (Nat.zero_le _) ?_
    exact ⟨congrArg (fun z => some (Value.int z)) (if_neg (Int32.not_lt.mpr c5)).symm, hq3⟩
  · refine aw_bipush (v := -4) dX6_part_66 (by decide) ?_
    refine aw_goto 72 dX6_part_68 (by decide) ?_
    refine aw_iret dX6_part_72 rfl (Nat.zero_le _) (Nat.zero_le _) ?_
    exact ⟨congrArg (fun z => some (Value.int z)) (if_pos (Int32.not_le.mp c5)).symm, hq3⟩
