-- SLACK, BY OUTCOME
theorem sp_ml_k {d : Nat} {M : xM} {i q : Nat} (hT : TC M) (hi : i < 2 ^ 30) (hq : q < 2 ^ 30) (h3 : mI M 8 3 = -1) (h2 : mI M 8 2 = nI q) : Sp (fX1_mayHaveLookedAt d) [.ref 8, .int (nI i)] M (dt (some (.int (bz (decide (i < q))))) M) := by
  refine Sp.of pn_X1 (Nat.le_of_ble_eq_true rfl) (fun h => Bool.noConfusion h) ?_
  refine aw_aload_n dX1_mayHaveLookedAt_0 0 rfl ?_
  refine aw_getI dX1_mayHaveLookedAt_1 fl_X1_24 (hT.s 8 (by decide)) (hT.n 8 (by decide)) ?_
  refine aw_topE h3 ?_
  refine aw_if_ge 23 dX1_mayHaveLookedAt_4 (by decide) (fun c1 => absurd c1 (by decide)) (fun c1 => ?_)
  refine aw_iload_n dX1_mayHaveLookedAt_7 1 rfl ?_
  refine aw_aload_n dX1_mayHaveLookedAt_8 0 rfl ?_
  refine aw_getI dX1_mayHaveLookedAt_9 fl_X1_21 (hT.s 8 (by decide)) (hT.n 8 (by decide)) ?_
  refine aw_topE h2 ?_
  refine aw_icmp_geN i q 19 dX1_mayHaveLookedAt_12 (by decide) rfl rfl (by omega) (by omega) (fun c2 => ?_) (fun c2 => ?_)
  · refine aw_iconst (v := 0) dX1_mayHaveLookedAt_19 (by decide) ?_
    refine aw_goto 39 dX1_mayHaveLookedAt_20 (by decide) ?_
    refine aw_zret dX1_mayHaveLookedAt_39 rfl rfl (Nat.zero_le _) (Nat.zero_le _) ?_
    exact ⟨congrArg (fun z => some (Value.int z)) (show (0 : Int32) = bz (decide (i < q)) by rw [decide_eq_false (by omega)]; rfl), rfl⟩
  · refine aw_iconst (v := 1) dX1_mayHaveLookedAt_15 (by decide) ?_
    refine aw_goto 39 dX1_mayHaveLookedAt_16 (by decide) ?_
    refine aw_zret dX1_mayHaveLookedAt_39 rfl rfl (Nat.zero_le _) (Nat.zero_le _) ?_
    exact ⟨congrArg (fun z => some (Value.int z)) (show (1 : Int32) = bz (decide (i < q)) by rw [decide_eq_true (by omega)]; rfl), rfl⟩
theorem sp_ml_e {d : Nat} {M : xM} {i f : Nat} (hT : TC M) (hi : i < 2 ^ 30) (hf : f < 2 ^ 30) (h3 : mI M 8 3 = nI f) : Sp (fX1_mayHaveLookedAt d) [.ref 8, .int (nI i)] M (dt (some (.int (bz (decide (i < f + 10))))) M) := by
  refine Sp.of pn_X1 (Nat.le_of_ble_eq_true rfl) (fun h => Bool.noConfusion h) ?_
  refine aw_aload_n dX1_mayHaveLookedAt_0 0 rfl ?_
  refine aw_getI dX1_mayHaveLookedAt_1 fl_X1_24 (hT.s 8 (by decide)) (hT.n 8 (by decide)) ?_
  refine aw_topE h3 ?_
  refine aw_if_ge 23 dX1_mayHaveLookedAt_4 (by decide) (fun c1 => ?_) (fun c1 => absurd (Int32.not_lt.mp (nI_nn (by omega))) c1)
  refine aw_iload_n dX1_mayHaveLookedAt_23 1 rfl ?_
  refine aw_aload_n dX1_mayHaveLookedAt_24 0 rfl ?_
  refine aw_getI dX1_mayHaveLookedAt_25 fl_X1_24 (hT.s 8 (by decide)) (hT.n 8 (by decide)) ?_
  refine aw_topE h3 ?_
  refine aw_bipush (v := 10) dX1_mayHaveLookedAt_28 (by decide) ?_
  refine aw_iaddN f 10 dX1_mayHaveLookedAt_30 rfl rfl ?_
  refine aw_icmp_geN i (f + 10) 38 dX1_mayHaveLookedAt_31 (by decide) rfl rfl (by omega) (by omega) (fun c2 => ?_) (fun c2 => ?_)
  · refine aw_iconst (v := 0) dX1_mayHaveLookedAt_38 (by decide) ?_
    refine aw_zret dX1_mayHaveLookedAt_39 rfl rfl (Nat.zero_le _) (Nat.zero_le _) ?_
    exact ⟨congrArg (fun z => some (Value.int z)) (show (0 : Int32) = bz (decide (i < f + 10)) by rw [decide_eq_false (by omega)]; rfl), rfl⟩
  · refine aw_iconst (v := 1) dX1_mayHaveLookedAt_34 (by decide) ?_
    refine aw_goto 39 dX1_mayHaveLookedAt_35 (by decide) ?_
    refine aw_zret dX1_mayHaveLookedAt_39 rfl rfl (Nat.zero_le _) (Nat.zero_le _) ?_
    exact ⟨congrArg (fun z => some (Value.int z)) (show (1 : Int32) = bz (decide (i < f + 10)) by rw [decide_eq_true (by omega)]; rfl), rfl⟩
theorem sp_X5_slack_b {d : Nat} (hd : 60 ≤ d) {M : xM} (x1 : Int32) (hT : TC M) (hb : sX3_has M 2 x1 = false) : Sp (fX5_slack d) [.ref 0, .int x1] M (dt (some (.int (-1))) M) := by
  refine Sp.of pn_X5 (Nat.le_of_ble_eq_true rfl) (fun h => Bool.noConfusion h) ?_
  refine aw_aload_n dX5_slack_0 0 rfl ?_
  refine aw_getR (b := 2) dX5_slack_1 fl_X5_20 rfl (hT.s 0 (by decide)) (hT.n 0 (by decide)) (hT.r 0 1 (by decide) (by decide)) ?_
  refine aw_iload_n dX5_slack_4 1 rfl ?_
  refine aw_callVi [.int x1] [] (sp_X3_has (d := d - 1) (by omega) x1 hT.tape) dX5_slack_5 ml_X5_227 im_X3_has (hT.s 2 (by decide)) (hT.n 2 (by decide)) rfl rfl (dl1 (d := d) (by omega)) rfl rfl (Nat.le_of_ble_eq_true rfl) rfl rfl (Nat.zero_le _) (Nat.zero_le _) ?_
  refine aw_if_ne 13 dX5_slack_8 (by decide) (fun c1 => absurd (bz_0.mpr hb) c1) (fun c1 => ?_)
  refine aw_iconst (v := -1) dX5_slack_11 (by decide) ?_
  refine aw_iret dX5_slack_12 rfl (Nat.zero_le _) (Nat.zero_le _) ?_
  exact ⟨rfl, rfl⟩
theorem sp_X5_slack_n0 {d : Nat} (hd : 60 ≤ d) {M : xM} {P : xM → Prop} {p i : Nat} (hT : TC M) (hb : sX3_has M 2 (nI i) = true) (hp : mI M 0 10 = nI p) (b1 : i < 2 ^ 30) (b2 : p < 2 ^ 30) (hti : Sp (fX1_takeItem (d - 1)) [.ref 8, .ref 2, .int (nI p)] M (fun r A => r = some (.int 0) ∧ P A)) (hP : ∀ A, P A → TC A ∧ mI A 0 10 = nI p) (hi : i < p) : Sp (fX5_slack d) [.ref 0, .int (nI i)] M (fun r B => r = some (.int 0) ∧ P B) := by
  refine Sp.of pn_X5 (Nat.le_of_ble_eq_true rfl) (fun h => Bool.noConfusion h) ?_
  refine aw_aload_n dX5_slack_0 0 rfl ?_
  refine aw_getR (b := 2) dX5_slack_1 fl_X5_20 rfl (hT.s 0 (by decide)) (hT.n 0 (by decide)) (hT.r 0 1 (by decide) (by decide)) ?_
  refine aw_iload_n dX5_slack_4 1 rfl ?_
  refine aw_callVi [.int (nI i)] [] (sp_X3_has (d := d - 1) (by omega) (nI i) hT.tape) dX5_slack_5 ml_X5_227 im_X3_has (hT.s 2 (by decide)) (hT.n 2 (by decide)) rfl rfl (dl1 (d := d) (by omega)) rfl rfl (Nat.le_of_ble_eq_true rfl) rfl rfl (Nat.zero_le _) (Nat.zero_le _) ?_
  refine aw_if_ne 13 dX5_slack_8 (by decide) (fun c1 => ?_) (fun c1 => absurd c1 (bz_n0.mpr hb))
  refine aw_aload_n dX5_slack_13 0 rfl ?_
  refine aw_getR (b := 8) dX5_slack_14 fl_X5_35 rfl (hT.s 0 (by decide)) (hT.n 0 (by decide)) (hT.r 0 4 (by decide) (by decide)) ?_
  refine aw_aload_n dX5_slack_17 0 rfl ?_
  refine aw_getR (b := 2) dX5_slack_18 fl_X5_20 rfl (hT.s 0 (by decide)) (hT.n 0 (by decide)) (hT.r 0 1 (by decide) (by decide)) ?_
  refine aw_aload_n dX5_slack_21 0 rfl ?_
  refine aw_getI dX5_slack_22 fl_X5_64 (hT.s 0 (by decide)) (hT.n 0 (by decide)) ?_
  refine aw_topE hp ?_
  refine aw_callVx [.ref 2, .int (nI p)] [] hti dX5_slack_25 ml_X5_238 im_X1_takeItem (hT.s 8 (by decide)) (hT.n 8 (by decide)) rfl rfl (dl1 (d := d) (by omega)) rfl rfl (Nat.le_of_ble_eq_true rfl) rfl rfl (Nat.zero_le _) (Nat.zero_le _) (fun r A1 hA => ?_)
  obtain ⟨rfl, hA⟩ := hA
  refine aw_cons ?_
  refine aw_istore_n [(2, .int 0), (0, .ref 0), (1, .int (nI i))] dX5_slack_28 (Nat.le_of_ble_eq_true rfl) rfl ?_
  refine aw_iload_n dX5_slack_29 2 rfl ?_
  refine aw_aload_n dX5_slack_30 1 rfl ?_
  refine aw_getI dX5_slack_31 fl_X5_64 ((hP A1 hA).1.s 0 (by decide)) ((hP A1 hA).1.n 0 (by decide)) ?_
  refine aw_topE (hP A1 hA).2 ?_
  refine aw_icmp_ltN i p 48 dX5_slack_34 (by decide) rfl rfl (by omega) (by omega) (fun c2 => ?_) (fun c2 => absurd (by omega) c2)
  refine aw_iload_n dX5_slack_48 0 rfl ?_
  refine aw_if_eq 58 dX5_slack_49 (by decide) (fun c3 => ?_) (fun c3 => absurd rfl c3)
  refine aw_iconst (v := 0) dX5_slack_58 (by decide) ?_
  refine aw_iret dX5_slack_59 rfl (Nat.zero_le _) (Nat.zero_le _) ?_
  exact ⟨rfl, hA⟩
theorem sp_X5_slack_m0 {d : Nat} (hd : 60 ≤ d) {M : xM} {P : xM → Prop} {p i : Nat} (hT : TC M) (hb : sX3_has M 2 (nI i) = true) (hp : mI M 0 10 = nI p) (b1 : i < 2 ^ 30) (b2 : p < 2 ^ 30) (hti : Sp (fX1_takeItem (d - 1)) [.ref 8, .ref 2, .int (nI p)] M (fun r A => r = some (.int 0) ∧ P A)) (hP : ∀ A, P A → TC A ∧ mI A 0 10 = nI p) (hi : ¬ i < p) (hml : ∀ A, P A → Sp (fX1_mayHaveLookedAt (d - 1)) [.ref 8, .int (nI i)] A (dt (some (.int (bz false))) A)) : Sp (fX5_slack d) [.ref 0, .int (nI i)] M (fun r B => r = some (.int 0) ∧ P B) := by
  refine Sp.of pn_X5 (Nat.le_of_ble_eq_true rfl) (fun h => Bool.noConfusion h) ?_
  refine aw_aload_n dX5_slack_0 0 rfl ?_
  refine aw_getR (b := 2) dX5_slack_1 fl_X5_20 rfl (hT.s 0 (by decide)) (hT.n 0 (by decide)) (hT.r 0 1 (by decide) (by decide)) ?_
  refine aw_iload_n dX5_slack_4 1 rfl ?_
  refine aw_callVi [.int (nI i)] [] (sp_X3_has (d := d - 1) (by omega) (nI i) hT.tape) dX5_slack_5 ml_X5_227 im_X3_has (hT.s 2 (by decide)) (hT.n 2 (by decide)) rfl rfl (dl1 (d := d) (by omega)) rfl rfl (Nat.le_of_ble_eq_true rfl) rfl rfl (Nat.zero_le _) (Nat.zero_le _) ?_
  refine aw_if_ne 13 dX5_slack_8 (by decide) (fun c1 => ?_) (fun c1 => absurd c1 (bz_n0.mpr hb))
  refine aw_aload_n dX5_slack_13 0 rfl ?_
  refine aw_getR (b := 8) dX5_slack_14 fl_X5_35 rfl (hT.s 0 (by decide)) (hT.n 0 (by decide)) (hT.r 0 4 (by decide) (by decide)) ?_
  refine aw_aload_n dX5_slack_17 0 rfl ?_
  refine aw_getR (b := 2) dX5_slack_18 fl_X5_20 rfl (hT.s 0 (by decide)) (hT.n 0 (by decide)) (hT.r 0 1 (by decide) (by decide)) ?_
  refine aw_aload_n dX5_slack_21 0 rfl ?_
  refine aw_getI dX5_slack_22 fl_X5_64 (hT.s 0 (by decide)) (hT.n 0 (by decide)) ?_
  refine aw_topE hp ?_
  refine aw_callVx [.ref 2, .int (nI p)] [] hti dX5_slack_25 ml_X5_238 im_X1_takeItem (hT.s 8 (by decide)) (hT.n 8 (by decide)) rfl rfl (dl1 (d := d) (by omega)) rfl rfl (Nat.le_of_ble_eq_true rfl) rfl rfl (Nat.zero_le _) (Nat.zero_le _) (fun r A1 hA => ?_)
  obtain ⟨rfl, hA⟩ := hA
  refine aw_cons ?_
  refine aw_istore_n [(2, .int 0), (0, .ref 0), (1, .int (nI i))] dX5_slack_28 (Nat.le_of_ble_eq_true rfl) rfl ?_
  refine aw_iload_n dX5_slack_29 2 rfl ?_
  refine aw_aload_n dX5_slack_30 1 rfl ?_
  refine aw_getI dX5_slack_31 fl_X5_64 ((hP A1 hA).1.s 0 (by decide)) ((hP A1 hA).1.n 0 (by decide)) ?_
  refine aw_topE (hP A1 hA).2 ?_
  refine aw_icmp_ltN i p 48 dX5_slack_34 (by decide) rfl rfl (by omega) (by omega) (fun c2 => absurd c2 (by omega)) (fun c2 => ?_)
  refine aw_aload_n dX5_slack_37 1 rfl ?_
  refine aw_getR (b := 8) dX5_slack_38 fl_X5_35 rfl ((hP A1 hA).1.s 0 (by decide)) ((hP A1 hA).1.n 0 (by decide)) ((hP A1 hA).1.r 0 4 (by decide) (by decide)) ?_
  refine aw_iload_n dX5_slack_41 2 rfl ?_
  refine aw_callVi [.int (nI i)] [] (hml A1 hA) dX5_slack_42 ml_X5_257 im_X1_mayHaveLookedAt ((hP A1 hA).1.s 8 (by decide)) ((hP A1 hA).1.n 8 (by decide)) rfl rfl (dl1 (d := d) (by omega)) rfl rfl (Nat.le_of_ble_eq_true rfl) rfl rfl (Nat.zero_le _) (Nat.zero_le _) ?_
  refine aw_if_ne 60 dX5_slack_45 (by decide) (fun c3 => absurd rfl c3) (fun c3 => ?_)
  refine aw_iload_n dX5_slack_48 0 rfl ?_
  refine aw_if_eq 58 dX5_slack_49 (by decide) (fun c4 => ?_) (fun c4 => absurd rfl c4)
  refine aw_iconst (v := 0) dX5_slack_58 (by decide) ?_
  refine aw_iret dX5_slack_59 rfl (Nat.zero_le _) (Nat.zero_le _) ?_
  exact ⟨rfl, hA⟩
theorem sp_X5_slack_n1 {d : Nat} (hd : 60 ≤ d) {M : xM} {P : xM → Prop} {p i : Nat} (hT : TC M) (hb : sX3_has M 2 (nI i) = true) (hp : mI M 0 10 = nI p) (b1 : i < 2 ^ 30) (b2 : p < 2 ^ 30) (hti : Sp (fX1_takeItem (d - 1)) [.ref 8, .ref 2, .int (nI p)] M (fun r A => r = some (.int 1) ∧ P A)) (hP : ∀ A, P A → TC A ∧ mI A 0 10 = nI p) (hi : i < p) : Sp (fX5_slack d) [.ref 0, .int (nI i)] M (fun r B => r = some (.int 256) ∧ P B) := by
  refine Sp.of pn_X5 (Nat.le_of_ble_eq_true rfl) (fun h => Bool.noConfusion h) ?_
  refine aw_aload_n dX5_slack_0 0 rfl ?_
  refine aw_getR (b := 2) dX5_slack_1 fl_X5_20 rfl (hT.s 0 (by decide)) (hT.n 0 (by decide)) (hT.r 0 1 (by decide) (by decide)) ?_
  refine aw_iload_n dX5_slack_4 1 rfl ?_
  refine aw_callVi [.int (nI i)] [] (sp_X3_has (d := d - 1) (by omega) (nI i) hT.tape) dX5_slack_5 ml_X5_227 im_X3_has (hT.s 2 (by decide)) (hT.n 2 (by decide)) rfl rfl (dl1 (d := d) (by omega)) rfl rfl (Nat.le_of_ble_eq_true rfl) rfl rfl (Nat.zero_le _) (Nat.zero_le _) ?_
  refine aw_if_ne 13 dX5_slack_8 (by decide) (fun c1 => ?_) (fun c1 => absurd c1 (bz_n0.mpr hb))
  refine aw_aload_n dX5_slack_13 0 rfl ?_
  refine aw_getR (b := 8) dX5_slack_14 fl_X5_35 rfl (hT.s 0 (by decide)) (hT.n 0 (by decide)) (hT.r 0 4 (by decide) (by decide)) ?_
  refine aw_aload_n dX5_slack_17 0 rfl ?_
  refine aw_getR (b := 2) dX5_slack_18 fl_X5_20 rfl (hT.s 0 (by decide)) (hT.n 0 (by decide)) (hT.r 0 1 (by decide) (by decide)) ?_
  refine aw_aload_n dX5_slack_21 0 rfl ?_
  refine aw_getI dX5_slack_22 fl_X5_64 (hT.s 0 (by decide)) (hT.n 0 (by decide)) ?_
  refine aw_topE hp ?_
  refine aw_callVx [.ref 2, .int (nI p)] [] hti dX5_slack_25 ml_X5_238 im_X1_takeItem (hT.s 8 (by decide)) (hT.n 8 (by decide)) rfl rfl (dl1 (d := d) (by omega)) rfl rfl (Nat.le_of_ble_eq_true rfl) rfl rfl (Nat.zero_le _) (Nat.zero_le _) (fun r A1 hA => ?_)
  obtain ⟨rfl, hA⟩ := hA
  refine aw_cons ?_
  refine aw_istore_n [(2, .int 1), (0, .ref 0), (1, .int (nI i))] dX5_slack_28 (Nat.le_of_ble_eq_true rfl) rfl ?_
  refine aw_iload_n dX5_slack_29 2 rfl ?_
  refine aw_aload_n dX5_slack_30 1 rfl ?_
  refine aw_getI dX5_slack_31 fl_X5_64 ((hP A1 hA).1.s 0 (by decide)) ((hP A1 hA).1.n 0 (by decide)) ?_
  refine aw_topE (hP A1 hA).2 ?_
  refine aw_icmp_ltN i p 48 dX5_slack_34 (by decide) rfl rfl (by omega) (by omega) (fun c2 => ?_) (fun c2 => absurd (by omega) c2)
  refine aw_iload_n dX5_slack_48 0 rfl ?_
  refine aw_if_eq 58 dX5_slack_49 (by decide) (fun c3 => absurd c3 (by decide)) (fun c3 => ?_)
  refine aw_sipush (v := 256) dX5_slack_52 (by decide) ?_
  refine aw_goto 59 dX5_slack_55 (by decide) ?_
  refine aw_iret dX5_slack_59 rfl (Nat.zero_le _) (Nat.zero_le _) ?_
  exact ⟨rfl, hA⟩
theorem sp_X5_slack_m1 {d : Nat} (hd : 60 ≤ d) {M : xM} {P : xM → Prop} {p i : Nat} (hT : TC M) (hb : sX3_has M 2 (nI i) = true) (hp : mI M 0 10 = nI p) (b1 : i < 2 ^ 30) (b2 : p < 2 ^ 30) (hti : Sp (fX1_takeItem (d - 1)) [.ref 8, .ref 2, .int (nI p)] M (fun r A => r = some (.int 1) ∧ P A)) (hP : ∀ A, P A → TC A ∧ mI A 0 10 = nI p) (hi : ¬ i < p) (hml : ∀ A, P A → Sp (fX1_mayHaveLookedAt (d - 1)) [.ref 8, .int (nI i)] A (dt (some (.int (bz false))) A)) : Sp (fX5_slack d) [.ref 0, .int (nI i)] M (fun r B => r = some (.int 256) ∧ P B) := by
  refine Sp.of pn_X5 (Nat.le_of_ble_eq_true rfl) (fun h => Bool.noConfusion h) ?_
  refine aw_aload_n dX5_slack_0 0 rfl ?_
  refine aw_getR (b := 2) dX5_slack_1 fl_X5_20 rfl (hT.s 0 (by decide)) (hT.n 0 (by decide)) (hT.r 0 1 (by decide) (by decide)) ?_
  refine aw_iload_n dX5_slack_4 1 rfl ?_
  refine aw_callVi [.int (nI i)] [] (sp_X3_has (d := d - 1) (by omega) (nI i) hT.tape) dX5_slack_5 ml_X5_227 im_X3_has (hT.s 2 (by decide)) (hT.n 2 (by decide)) rfl rfl (dl1 (d := d) (by omega)) rfl rfl (Nat.le_of_ble_eq_true rfl) rfl rfl (Nat.zero_le _) (Nat.zero_le _) ?_
  refine aw_if_ne 13 dX5_slack_8 (by decide) (fun c1 => ?_) (fun c1 => absurd c1 (bz_n0.mpr hb))
  refine aw_aload_n dX5_slack_13 0 rfl ?_
  refine aw_getR (b := 8) dX5_slack_14 fl_X5_35 rfl (hT.s 0 (by decide)) (hT.n 0 (by decide)) (hT.r 0 4 (by decide) (by decide)) ?_
  refine aw_aload_n dX5_slack_17 0 rfl ?_
  refine aw_getR (b := 2) dX5_slack_18 fl_X5_20 rfl (hT.s 0 (by decide)) (hT.n 0 (by decide)) (hT.r 0 1 (by decide) (by decide)) ?_
  refine aw_aload_n dX5_slack_21 0 rfl ?_
  refine aw_getI dX5_slack_22 fl_X5_64 (hT.s 0 (by decide)) (hT.n 0 (by decide)) ?_
  refine aw_topE hp ?_
  refine aw_callVx [.ref 2, .int (nI p)] [] hti dX5_slack_25 ml_X5_238 im_X1_takeItem (hT.s 8 (by decide)) (hT.n 8 (by decide)) rfl rfl (dl1 (d := d) (by omega)) rfl rfl (Nat.le_of_ble_eq_true rfl) rfl rfl (Nat.zero_le _) (Nat.zero_le _) (fun r A1 hA => ?_)
  obtain ⟨rfl, hA⟩ := hA
  refine aw_cons ?_
  refine aw_istore_n [(2, .int 1), (0, .ref 0), (1, .int (nI i))] dX5_slack_28 (Nat.le_of_ble_eq_true rfl) rfl ?_
  refine aw_iload_n dX5_slack_29 2 rfl ?_
  refine aw_aload_n dX5_slack_30 1 rfl ?_
  refine aw_getI dX5_slack_31 fl_X5_64 ((hP A1 hA).1.s 0 (by decide)) ((hP A1 hA).1.n 0 (by decide)) ?_
  refine aw_topE (hP A1 hA).2 ?_
  refine aw_icmp_ltN i p 48 dX5_slack_34 (by decide) rfl rfl (by omega) (by omega) (fun c2 => absurd c2 (by omega)) (fun c2 => ?_)
  refine aw_aload_n dX5_slack_37 1 rfl ?_
  refine aw_getR (b := 8) dX5_slack_38 fl_X5_35 rfl ((hP A1 hA).1.s 0 (by decide)) ((hP A1 hA).1.n 0 (by decide)) ((hP A1 hA).1.r 0 4 (by decide) (by decide)) ?_
  refine aw_iload_n dX5_slack_41 2 rfl ?_
  refine aw_callVi [.int (nI i)] [] (hml A1 hA) dX5_slack_42 ml_X5_257 im_X1_mayHaveLookedAt ((hP A1 hA).1.s 8 (by decide)) ((hP A1 hA).1.n 8 (by decide)) rfl rfl (dl1 (d := d) (by omega)) rfl rfl (Nat.le_of_ble_eq_true rfl) rfl rfl (Nat.zero_le _) (Nat.zero_le _) ?_
  refine aw_if_ne 60 dX5_slack_45 (by decide) (fun c3 => absurd rfl c3) (fun c3 => ?_)
  refine aw_iload_n dX5_slack_48 0 rfl ?_
  refine aw_if_eq 58 dX5_slack_49 (by decide) (fun c4 => absurd c4 (by decide)) (fun c4 => ?_)
  refine aw_sipush (v := 256) dX5_slack_52 (by decide) ?_
  refine aw_goto 59 dX5_slack_55 (by decide) ?_
  refine aw_iret dX5_slack_59 rfl (Nat.zero_le _) (Nat.zero_le _) ?_
  exact ⟨rfl, hA⟩
theorem lp_slC {d : Nat} (hd : 60 ≤ d) {M0 : xM} {B : Nat → Nat} {L p i : Nat} (hL : L ≤ 200) (hi : i < L) (hpl : p ≤ L) (h2 : mI M0 2 1 = nI L) (h10 : mI M0 0 10 = nI p) (hB : ∀ j, j < L → mI M0 3 j = nI (B j) ∧ B j < 256) (s old : Int32) : ∀ n b k (A : xM), b + n = 256 → k ≤ b → SCl M0 i A → AW (fX5_slack d) 75 [(5, .int (nI b)), (4, .int (nI k)), (3, .int old), (2, .int s), (0, .ref 0), (1, .int (nI i))] [] A 0 0 (fun r C => r = some (.int (nI (cnt (sHit B L p i) n b k))) ∧ ∃ C1, SCl M0 i C1 ∧ C = stI C1 3 i old) := by
  intro n
  induction n with
  | zero =>
    intro b k A hb hk hA
    refine aw_iload dX5_slack_75 0 rfl ?_
    refine aw_sipush (v := 256) dX5_slack_77 (by decide) ?_
    refine aw_icmp_geN b 256 120 dX5_slack_80 (by decide) rfl rfl (by omega) (by omega) (fun c1 => ?_) (fun c1 => absurd (by omega) c1)
    refine aw_aload_n dX5_slack_120 4 rfl ?_
    refine aw_getR (b := 2) dX5_slack_121 fl_X5_20 rfl (hA.1.s 0 (by decide)) (hA.1.n 0 (by decide)) (hA.1.r 0 1 (by decide) (by decide)) ?_
    refine aw_iload_n dX5_slack_124 5 rfl ?_
    refine aw_iload_n dX5_slack_125 2 rfl ?_
    refine aw_callVv [.int (nI i), .int old] [] (sp_rep (d := d - 1) (by omega) old hA.1 (by rw [hA.2.1 2 (by decide)]; exact h2) hL hi) dX5_slack_126 ml_X5_235 im_X3_replace (hA.1.s 2 (by decide)) (hA.1.n 2 (by decide)) rfl rfl (dl1 (d := d) (by omega)) rfl rfl (Nat.le_of_ble_eq_true rfl) rfl rfl (Nat.zero_le _) (Nat.zero_le _) ?_
    refine aw_iload dX5_slack_129 1 rfl ?_
    refine aw_iret dX5_slack_131 rfl (Nat.zero_le _) (Nat.zero_le _) ?_
    exact ⟨rfl, A, hA, rfl⟩
  | succ n ih =>
    intro b k A hb hk hA
    have hA2 := hA.st (nI b)
    have hti := sp_ti (d := d - 1) (by omega) hA2.1 (hA.D hL h2 hB (show b < 256 by omega) p) hpl
    cases e : pItem (upB B i b) L p with
    | error f =>
      rw [e] at hti
      rw [cnt_f n k (sHit_e e)]
      refine aw_iload dX5_slack_75 0 rfl ?_
      refine aw_sipush (v := 256) dX5_slack_77 (by decide) ?_
      refine aw_icmp_geN b 256 120 dX5_slack_80 (by decide) rfl rfl (by omega) (by omega) (fun c1 => absurd c1 (by omega)) (fun c1 => ?_)
      refine aw_aload_n dX5_slack_83 4 rfl ?_
      refine aw_getR (b := 2) dX5_slack_84 fl_X5_20 rfl (hA.1.s 0 (by decide)) (hA.1.n 0 (by decide)) (hA.1.r 0 1 (by decide) (by decide)) ?_
      refine aw_iload_n dX5_slack_87 5 rfl ?_
      refine aw_iload dX5_slack_88 0 rfl ?_
      refine aw_callVv [.int (nI i), .int (nI b)] [] (sp_rep (d := d - 1) (by omega) (nI b) hA.1 (by rw [hA.2.1 2 (by decide)]; exact h2) hL hi) dX5_slack_90 ml_X5_235 im_X3_replace (hA.1.s 2 (by decide)) (hA.1.n 2 (by decide)) rfl rfl (dl1 (d := d) (by omega)) rfl rfl (Nat.le_of_ble_eq_true rfl) rfl rfl (Nat.zero_le _) (Nat.zero_le _) ?_
      refine aw_aload_n dX5_slack_93 4 rfl ?_
      refine aw_getR (b := 8) dX5_slack_94 fl_X5_35 rfl (hA2.1.s 0 (by decide)) (hA2.1.n 0 (by decide)) (hA2.1.r 0 4 (by decide) (by decide)) ?_
      refine aw_aload_n dX5_slack_97 4 rfl ?_
      refine aw_getR (b := 2) dX5_slack_98 fl_X5_20 rfl (hA2.1.s 0 (by decide)) (hA2.1.n 0 (by decide)) (hA2.1.r 0 1 (by decide) (by decide)) ?_
      refine aw_aload_n dX5_slack_101 4 rfl ?_
      refine aw_getI dX5_slack_102 fl_X5_64 (hA2.1.s 0 (by decide)) (hA2.1.n 0 (by decide)) ?_
      refine aw_topE ((congrFun (hA2.2.1 0 (by decide)) 10).trans h10) ?_
      refine aw_callVx [.ref 2, .int (nI p)] [] hti dX5_slack_105 ml_X5_238 im_X1_takeItem (hA2.1.s 8 (by decide)) (hA2.1.n 8 (by decide)) rfl rfl (dl1 (d := d) (by omega)) rfl rfl (Nat.le_of_ble_eq_true rfl) rfl rfl (Nat.zero_le _) (Nat.zero_le _) (fun r A1 hA1 => ?_)
      obtain ⟨rfl, hA1⟩ := hA1
      refine aw_cons ?_
      have hF1 : SCl M0 i A1 := hA2.rd hA1.1
      refine aw_if_eq 114 dX5_slack_108 (by decide) (fun c2 => ?_) (fun c2 => absurd rfl c2)
      refine aw_iincN b 1 [(5, .int (nI (b + 1))), (4, .int (nI k)), (3, .int old), (2, .int s), (0, .ref 0), (1, .int (nI i))] dX5_slack_114 0 rfl rfl rfl (Nat.le_of_ble_eq_true rfl) rfl ?_
      refine aw_goto 75 dX5_slack_117 (by decide) ?_
      exact ih (b + 1) k A1 (by omega) (by omega) hF1
    | ok pr =>
      rw [e] at hti
      rw [cnt_t n k (sHit_k e)]
      refine aw_iload dX5_slack_75 0 rfl ?_
      refine aw_sipush (v := 256) dX5_slack_77 (by decide) ?_
      refine aw_icmp_geN b 256 120 dX5_slack_80 (by decide) rfl rfl (by omega) (by omega) (fun c1 => absurd c1 (by omega)) (fun c1 => ?_)
      refine aw_aload_n dX5_slack_83 4 rfl ?_
      refine aw_getR (b := 2) dX5_slack_84 fl_X5_20 rfl (hA.1.s 0 (by decide)) (hA.1.n 0 (by decide)) (hA.1.r 0 1 (by decide) (by decide)) ?_
      refine aw_iload_n dX5_slack_87 5 rfl ?_
      refine aw_iload dX5_slack_88 0 rfl ?_
      refine aw_callVv [.int (nI i), .int (nI b)] [] (sp_rep (d := d - 1) (by omega) (nI b) hA.1 (by rw [hA.2.1 2 (by decide)]; exact h2) hL hi) dX5_slack_90 ml_X5_235 im_X3_replace (hA.1.s 2 (by decide)) (hA.1.n 2 (by decide)) rfl rfl (dl1 (d := d) (by omega)) rfl rfl (Nat.le_of_ble_eq_true rfl) rfl rfl (Nat.zero_le _) (Nat.zero_le _) ?_
      refine aw_aload_n dX5_slack_93 4 rfl ?_
      refine aw_getR (b := 8) dX5_slack_94 fl_X5_35 rfl (hA2.1.s 0 (by decide)) (hA2.1.n 0 (by decide)) (hA2.1.r 0 4 (by decide) (by decide)) ?_
      refine aw_aload_n dX5_slack_97 4 rfl ?_
      refine aw_getR (b := 2) dX5_slack_98 fl_X5_20 rfl (hA2.1.s 0 (by decide)) (hA2.1.n 0 (by decide)) (hA2.1.r 0 1 (by decide) (by decide)) ?_
      refine aw_aload_n dX5_slack_101 4 rfl ?_
      refine aw_getI dX5_slack_102 fl_X5_64 (hA2.1.s 0 (by decide)) (hA2.1.n 0 (by decide)) ?_
      refine aw_topE ((congrFun (hA2.2.1 0 (by decide)) 10).trans h10) ?_
      refine aw_callVx [.ref 2, .int (nI p)] [] hti dX5_slack_105 ml_X5_238 im_X1_takeItem (hA2.1.s 8 (by decide)) (hA2.1.n 8 (by decide)) rfl rfl (dl1 (d := d) (by omega)) rfl rfl (Nat.le_of_ble_eq_true rfl) rfl rfl (Nat.zero_le _) (Nat.zero_le _) (fun r A1 hA1 => ?_)
      obtain ⟨rfl, hA1⟩ := hA1
      refine aw_cons ?_
      have hF1 : SCl M0 i A1 := hA2.rd hA1.1
      refine aw_if_eq 114 dX5_slack_108 (by decide) (fun c2 => absurd c2 (by decide)) (fun c2 => ?_)
      refine aw_iincN k 1 [(4, .int (nI (k + 1))), (5, .int (nI b)), (3, .int old), (2, .int s), (0, .ref 0), (1, .int (nI i))] dX5_slack_111 1 rfl rfl rfl (Nat.le_of_ble_eq_true rfl) rfl ?_
      refine aw_iincN b 1 [(5, .int (nI (b + 1))), (4, .int (nI (k + 1))), (3, .int old), (2, .int s), (0, .ref 0), (1, .int (nI i))] dX5_slack_114 1 rfl rfl rfl (Nat.le_of_ble_eq_true rfl) rfl ?_
      refine aw_goto 75 dX5_slack_117 (by decide) ?_
      exact ih (b + 1) (k + 1) A1 (by omega) (by omega) hF1
theorem sp_X5_slack_l {d : Nat} (hd : 60 ≤ d) {M : xM} {B : Nat → Nat} {L : Nat} {s : Int32} {P : xM → Prop} {p i : Nat} (hT : TC M) (hb : sX3_has M 2 (nI i) = true) (hp : mI M 0 10 = nI p) (hL : L ≤ 200) (hi : i < L) (hpl : p ≤ L) (hti : Sp (fX1_takeItem (d - 1)) [.ref 8, .ref 2, .int (nI p)] M (fun r A => r = some (.int s) ∧ P A)) (hP : ∀ A, P A → TC A ∧ mI A 0 10 = nI p) (hip : ¬ i < p) (hml : ∀ A, P A → Sp (fX1_mayHaveLookedAt (d - 1)) [.ref 8, .int (nI i)] A (dt (some (.int (bz true))) A)) (h2 : ∀ A, P A → mI A 2 1 = nI L) (hB : ∀ A, P A → ∀ j, j < L → mI A 3 j = nI (B j) ∧ B j < 256) : Sp (fX5_slack d) [.ref 0, .int (nI i)] M (fun r C => r = some (.int (nI (cnt (sHit B L p i) 256 0 0))) ∧ ∃ A, P A ∧ ∃ C1, SCl A i C1 ∧ C = stI C1 3 i (mI A 3 i)) := by
  refine Sp.of pn_X5 (Nat.le_of_ble_eq_true rfl) (fun h => Bool.noConfusion h) ?_
  refine aw_aload_n dX5_slack_0 0 rfl ?_
  refine aw_getR (b := 2) dX5_slack_1 fl_X5_20 rfl (hT.s 0 (by decide)) (hT.n 0 (by decide)) (hT.r 0 1 (by decide) (by decide)) ?_
  refine aw_iload_n dX5_slack_4 1 rfl ?_
  refine aw_callVi [.int (nI i)] [] (sp_X3_has (d := d - 1) (by omega) (nI i) hT.tape) dX5_slack_5 ml_X5_227 im_X3_has (hT.s 2 (by decide)) (hT.n 2 (by decide)) rfl rfl (dl1 (d := d) (by omega)) rfl rfl (Nat.le_of_ble_eq_true rfl) rfl rfl (Nat.zero_le _) (Nat.zero_le _) ?_
  refine aw_if_ne 13 dX5_slack_8 (by decide) (fun c1 => ?_) (fun c1 => absurd c1 (bz_n0.mpr hb))
  refine aw_aload_n dX5_slack_13 0 rfl ?_
  refine aw_getR (b := 8) dX5_slack_14 fl_X5_35 rfl (hT.s 0 (by decide)) (hT.n 0 (by decide)) (hT.r 0 4 (by decide) (by decide)) ?_
  refine aw_aload_n dX5_slack_17 0 rfl ?_
  refine aw_getR (b := 2) dX5_slack_18 fl_X5_20 rfl (hT.s 0 (by decide)) (hT.n 0 (by decide)) (hT.r 0 1 (by decide) (by decide)) ?_
  refine aw_aload_n dX5_slack_21 0 rfl ?_
  refine aw_getI dX5_slack_22 fl_X5_64 (hT.s 0 (by decide)) (hT.n 0 (by decide)) ?_
  refine aw_topE hp ?_
  refine aw_callVx [.ref 2, .int (nI p)] [] hti dX5_slack_25 ml_X5_238 im_X1_takeItem (hT.s 8 (by decide)) (hT.n 8 (by decide)) rfl rfl (dl1 (d := d) (by omega)) rfl rfl (Nat.le_of_ble_eq_true rfl) rfl rfl (Nat.zero_le _) (Nat.zero_le _) (fun r A1 hA => ?_)
  obtain ⟨rfl, hA⟩ := hA
  refine aw_cons ?_
  refine aw_istore_n [(2, .int s), (0, .ref 0), (1, .int (nI i))] dX5_slack_28 (Nat.le_of_ble_eq_true rfl) rfl ?_
  refine aw_iload_n dX5_slack_29 2 rfl ?_
  refine aw_aload_n dX5_slack_30 1 rfl ?_
  refine aw_getI dX5_slack_31 fl_X5_64 ((hP A1 hA).1.s 0 (by decide)) ((hP A1 hA).1.n 0 (by decide)) ?_
  refine aw_topE (hP A1 hA).2 ?_
  refine aw_icmp_ltN i p 48 dX5_slack_34 (by decide) rfl rfl (by omega) (by omega) (fun c2 => absurd c2 (by omega)) (fun c2 => ?_)
  refine aw_aload_n dX5_slack_37 1 rfl ?_
  refine aw_getR (b := 8) dX5_slack_38 fl_X5_35 rfl ((hP A1 hA).1.s 0 (by decide)) ((hP A1 hA).1.n 0 (by decide)) ((hP A1 hA).1.r 0 4 (by decide) (by decide)) ?_
  refine aw_iload_n dX5_slack_41 2 rfl ?_
  refine aw_callVi [.int (nI i)] [] (hml A1 hA) dX5_slack_42 ml_X5_257 im_X1_mayHaveLookedAt ((hP A1 hA).1.s 8 (by decide)) ((hP A1 hA).1.n 8 (by decide)) rfl rfl (dl1 (d := d) (by omega)) rfl rfl (Nat.le_of_ble_eq_true rfl) rfl rfl (Nat.zero_le _) (Nat.zero_le _) ?_
  refine aw_if_ne 60 dX5_slack_45 (by decide) (fun c3 => ?_) (fun c3 => absurd c3 (by decide))
  refine aw_aload_n dX5_slack_60 1 rfl ?_
  refine aw_getR (b := 2) dX5_slack_61 fl_X5_20 rfl ((hP A1 hA).1.s 0 (by decide)) ((hP A1 hA).1.n 0 (by decide)) ((hP A1 hA).1.r 0 1 (by decide) (by decide)) ?_
  refine aw_iload_n dX5_slack_64 2 rfl ?_
  refine aw_callVi [.int (nI i)] [] (sp_at2 (d := d - 1) (hP A1 hA).1 (h2 A1 hA) hL hi) dX5_slack_65 ml_X5_229 im_X3_at ((hP A1 hA).1.s 2 (by decide)) ((hP A1 hA).1.n 2 (by decide)) rfl rfl (dl1 (d := d) (by omega)) rfl rfl (Nat.le_of_ble_eq_true rfl) rfl rfl (Nat.zero_le _) (Nat.zero_le _) ?_
  refine aw_istore_n [(3, .int (mI A1 3 i)), (2, .int s), (0, .ref 0), (1, .int (nI i))] dX5_slack_68 (Nat.le_of_ble_eq_true rfl) rfl ?_
  refine aw_iconst (v := 0) dX5_slack_69 (by decide) ?_
  refine aw_istore [(4, .int 0), (3, .int (mI A1 3 i)), (2, .int s), (0, .ref 0), (1, .int (nI i))] dX5_slack_70 (Nat.le_of_ble_eq_true rfl) rfl ?_
  refine aw_iconst (v := 0) dX5_slack_72 (by decide) ?_
  refine aw_istore [(5, .int 0), (4, .int 0), (3, .int (mI A1 3 i)), (2, .int s), (0, .ref 0), (1, .int (nI i))] dX5_slack_73 (Nat.le_of_ble_eq_true rfl) rfl ?_
  exact aw_post (fun r C h => ⟨h.1, A1, hA, h.2⟩) (lp_slC hd hL hi hpl (h2 A1 hA) (hP A1 hA).2 (hB A1 hA) s (mI A1 3 i) 256 0 0 A1 (by omega) (by omega) (SCl.rf (hP A1 hA).1 i))
theorem sp_X6_slack_b1 {d : Nat} (hd : 60 ≤ d) {M : xM} (x1 : Int32) (hT : TR M) (h : x1 < 0) : Sp (fX6_slack d) [.ref 0, .int x1] M (dt (some (.int (-1))) M) := by
  refine Sp.of pn_X6 (Nat.le_of_ble_eq_true rfl) (fun h => Bool.noConfusion h) ?_
  refine aw_iload_n dX6_slack_0 1 rfl ?_
  refine aw_if_lt 12 dX6_slack_1 (by decide) (fun c1 => ?_) (fun c1 => absurd h c1)
  refine aw_iconst (v := -1) dX6_slack_12 (by decide) ?_
  refine aw_iret dX6_slack_13 rfl (Nat.zero_le _) (Nat.zero_le _) ?_
  exact ⟨rfl, rfl⟩
theorem sp_X6_slack_b2 {d : Nat} (hd : 60 ≤ d) {M : xM} (x1 : Int32) (hT : TR M) (h : ¬ x1 < 0) (h2 : mI M 0 6 ≤ x1) : Sp (fX6_slack d) [.ref 0, .int x1] M (dt (some (.int (-1))) M) := by
  refine Sp.of pn_X6 (Nat.le_of_ble_eq_true rfl) (fun h => Bool.noConfusion h) ?_
  refine aw_iload_n dX6_slack_0 1 rfl ?_
  refine aw_if_lt 12 dX6_slack_1 (by decide) (fun c1 => absurd c1 h) (fun c1 => ?_)
  refine aw_iload_n dX6_slack_4 1 rfl ?_
  refine aw_aload_n dX6_slack_5 0 rfl ?_
  refine aw_getI dX6_slack_6 fl_X6_354 (hT.s 0 (by decide)) (hT.n 0 (by decide)) ?_
  refine aw_icmp_lt 14 dX6_slack_9 (by decide) (fun c2 => absurd c2 (Int32.not_lt.mpr h2)) (fun c2 => ?_)
  refine aw_iconst (v := -1) dX6_slack_12 (by decide) ?_
  refine aw_iret dX6_slack_13 rfl (Nat.zero_le _) (Nat.zero_le _) ?_
  exact ⟨rfl, rfl⟩
theorem lp_slR {d : Nat} (hd : 60 ≤ d) {M0 : xM} {B : Nat → Nat} {L p i : Nat} (hS : RfS M0 B L) (hi : i < L) (hpl : p ≤ L) (h7 : mI M0 0 7 = nI p) : ∀ n b k (C : xM), b + n = 256 → k ≤ b → SRr M0 i C → AW (fX6_slack d) 22 [(3, .int (nI b)), (2, .int (nI k)), (0, .ref 0), (1, .int (nI i))] [] C 0 0 (fun r D => r = some (.int (nI (cnt (sHit B L p i) n b k))) ∧ SRr M0 i D) := by
  have hL := hS.2.1
  intro n
  induction n with
  | zero =>
    intro b k C hb hk hC
    obtain ⟨hC1T, hC2, hC3⟩ := hC.T hS.1
    refine aw_iload_n dX6_slack_22 0 rfl ?_
    refine aw_sipush (v := 256) dX6_slack_23 (by decide) ?_
    refine aw_icmp_geN b 256 61 dX6_slack_26 (by decide) rfl rfl (by omega) (by omega) (fun c1 => ?_) (fun c1 => absurd (by omega) c1)
    refine aw_iload_n dX6_slack_61 1 rfl ?_
    refine aw_iret dX6_slack_62 rfl (Nat.zero_le _) (Nat.zero_le _) ?_
    exact ⟨rfl, hC⟩
  | succ n ih =>
    intro b k C hb hk hC
    obtain ⟨hC1T, hC2, hC3⟩ := hC.T hS.1
    have hri := sp_ri (d := d - 1) (by omega) (hC.D hS (show b < 256 by omega)) (hC2.k (mI_stI_c _ _ _ (by decide))) hpl
    cases e : pItem (upB B i b) L p with
    | error f =>
      rw [e] at hri
      have hf := pItem_e e hpl
      rw [cnt_f n k (sHit_e e)]
      refine aw_iload_n dX6_slack_22 0 rfl ?_
      refine aw_sipush (v := 256) dX6_slack_23 (by decide) ?_
      refine aw_icmp_geN b 256 61 dX6_slack_26 (by decide) rfl rfl (by omega) (by omega) (fun c1 => absurd c1 (by omega)) (fun c1 => ?_)
      refine aw_aload_n dX6_slack_29 2 rfl ?_
      refine aw_getR (b := 14) dX6_slack_30 fl_X6_54 rfl (hC1T.s 0 (by decide)) (hC1T.n 0 (by decide)) (hC1T.r 22) ?_
      refine aw_iload_n dX6_slack_33 3 rfl ?_
      refine aw_iload_n dX6_slack_34 0 rfl ?_
      refine aw_iastN i dX6_slack_35 (hC1T.s 14 (by decide)) (hC1T.n 14 (by decide)) rfl (by omega) (by first | decide | omega) ?_
      refine aw_aload_n dX6_slack_36 2 rfl ?_
      refine aw_aload_n dX6_slack_37 2 rfl ?_
      refine aw_getI dX6_slack_38 fl_X6_366 (((sT.I C 14 i (nI b)).TR hC1T).s 0 (by decide)) (((sT.I C 14 i (nI b)).TR hC1T).n 0 (by decide)) ?_
      refine aw_topE ((congrFun (mI_stI_c _ _ _ (show (0 : Nat) ≠ 14 by decide)) 7).trans (hC3.trans h7)) ?_
      refine aw_callVx [.int (nI p)] [] hri dX6_slack_41 ml_X6_372 im_X6_readsItem (((sT.I C 14 i (nI b)).TR hC1T).s 0 (by decide)) (((sT.I C 14 i (nI b)).TR hC1T).n 0 (by decide)) rfl rfl (dl1 (d := d) (by omega)) rfl rfl (Nat.le_of_ble_eq_true rfl) rfl rfl (Nat.zero_le _) (Nat.zero_le _) (fun r C1 hC1 => ?_)
      obtain ⟨⟨y, rfl⟩, hC1⟩ := hC1
      refine aw_cons ?_
      have hF1 : SRr M0 i C1 := hC.rd hC1.1
      refine aw_pop dX6_slack_44 rfl ?_
      refine aw_aload_n dX6_slack_45 2 rfl ?_
      refine aw_getI dX6_slack_46 fl_X6_283 ((hF1.T hS.1).1.s 0 (by decide)) ((hF1.T hS.1).1.n 0 (by decide)) ?_
      refine aw_topE hC1.2 ?_
      refine aw_if_ge 55 dX6_slack_49 (by decide) (fun c2 => ?_) (fun c2 => absurd (Int32.not_lt.mp (nI_nn (by omega))) c2)
      refine aw_iincN b 1 [(3, .int (nI (b + 1))), (2, .int (nI k)), (0, .ref 0), (1, .int (nI i))] dX6_slack_55 0 rfl rfl rfl (Nat.le_of_ble_eq_true rfl) rfl ?_
      refine aw_goto 22 dX6_slack_58 (by decide) ?_
      exact ih (b + 1) k C1 (by omega) (by omega) hF1
    | ok pr =>
      rw [e] at hri
      rw [cnt_t n k (sHit_k e)]
      refine aw_iload_n dX6_slack_22 0 rfl ?_
      refine aw_sipush (v := 256) dX6_slack_23 (by decide) ?_
      refine aw_icmp_geN b 256 61 dX6_slack_26 (by decide) rfl rfl (by omega) (by omega) (fun c1 => absurd c1 (by omega)) (fun c1 => ?_)
      refine aw_aload_n dX6_slack_29 2 rfl ?_
      refine aw_getR (b := 14) dX6_slack_30 fl_X6_54 rfl (hC1T.s 0 (by decide)) (hC1T.n 0 (by decide)) (hC1T.r 22) ?_
      refine aw_iload_n dX6_slack_33 3 rfl ?_
      refine aw_iload_n dX6_slack_34 0 rfl ?_
      refine aw_iastN i dX6_slack_35 (hC1T.s 14 (by decide)) (hC1T.n 14 (by decide)) rfl (by omega) (by first | decide | omega) ?_
      refine aw_aload_n dX6_slack_36 2 rfl ?_
      refine aw_aload_n dX6_slack_37 2 rfl ?_
      refine aw_getI dX6_slack_38 fl_X6_366 (((sT.I C 14 i (nI b)).TR hC1T).s 0 (by decide)) (((sT.I C 14 i (nI b)).TR hC1T).n 0 (by decide)) ?_
      refine aw_topE ((congrFun (mI_stI_c _ _ _ (show (0 : Nat) ≠ 14 by decide)) 7).trans (hC3.trans h7)) ?_
      refine aw_callVx [.int (nI p)] [] hri dX6_slack_41 ml_X6_372 im_X6_readsItem (((sT.I C 14 i (nI b)).TR hC1T).s 0 (by decide)) (((sT.I C 14 i (nI b)).TR hC1T).n 0 (by decide)) rfl rfl (dl1 (d := d) (by omega)) rfl rfl (Nat.le_of_ble_eq_true rfl) rfl rfl (Nat.zero_le _) (Nat.zero_le _) (fun r C1 hC1 => ?_)
      obtain ⟨rfl, hC1⟩ := hC1
      refine aw_cons ?_
      have hF1 : SRr M0 i C1 := hC.rd hC1.1
      refine aw_pop dX6_slack_44 rfl ?_
      refine aw_aload_n dX6_slack_45 2 rfl ?_
      refine aw_getI dX6_slack_46 fl_X6_283 ((hF1.T hS.1).1.s 0 (by decide)) ((hF1.T hS.1).1.n 0 (by decide)) ?_
      refine aw_topE hC1.2.1 ?_
      refine aw_if_ge 55 dX6_slack_49 (by decide) (fun c2 => absurd c2 (by decide)) (fun c2 => ?_)
      refine aw_iincN k 1 [(2, .int (nI (k + 1))), (3, .int (nI b)), (0, .ref 0), (1, .int (nI i))] dX6_slack_52 1 rfl rfl rfl (Nat.le_of_ble_eq_true rfl) rfl ?_
      refine aw_iincN b 1 [(3, .int (nI (b + 1))), (2, .int (nI (k + 1))), (0, .ref 0), (1, .int (nI i))] dX6_slack_55 1 rfl rfl rfl (Nat.le_of_ble_eq_true rfl) rfl ?_
      refine aw_goto 22 dX6_slack_58 (by decide) ?_
      exact ih (b + 1) (k + 1) C1 (by omega) (by omega) hF1
theorem sp_X6_slack_k {d : Nat} (hd : 60 ≤ d) {M : xM} {B : Nat → Nat} {L p i : Nat} (hT : TR M) (hl : mI M 0 6 = nI L) (bl : L ≤ 200) (hi : i < L) (hpl : p ≤ L) (hp : mI M 0 7 = nI p) (hS : RfS (ftM M L) B L) (hLn : LenR (ftM M L)) : Sp (fX6_slack d) [.ref 0, .int (nI i)] M (fun r D => r = some (.int (nI (cnt (sHit B L p i) 256 0 0))) ∧ SRr (ftM M L) i D) := by
  refine Sp.of pn_X6 (Nat.le_of_ble_eq_true rfl) (fun h => Bool.noConfusion h) ?_
  refine aw_iload_n dX6_slack_0 1 rfl ?_
  refine aw_if_lt 12 dX6_slack_1 (by decide) (fun c1 => absurd c1 (nI_nn (by omega))) (fun c1 => ?_)
  refine aw_iload_n dX6_slack_4 1 rfl ?_
  refine aw_aload_n dX6_slack_5 0 rfl ?_
  refine aw_getI dX6_slack_6 fl_X6_354 (hT.s 0 (by decide)) (hT.n 0 (by decide)) ?_
  refine aw_topE hl ?_
  refine aw_icmp_ltN i L 14 dX6_slack_9 (by decide) rfl rfl (by omega) (by omega) (fun c2 => ?_) (fun c2 => absurd (by omega) c2)
  refine aw_aload_n dX6_slack_14 0 rfl ?_
  refine aw_callVv [] [] (sp_ft (d := d - 1) hT hl bl) dX6_slack_15 ml_X6_369 im_X6_fromTape (hT.s 0 (by decide)) (hT.n 0 (by decide)) rfl rfl (dl1 (d := d) (by omega)) rfl rfl (Nat.le_of_ble_eq_true rfl) rfl rfl (Nat.zero_le _) (Nat.zero_le _) ?_
  refine aw_iconst (v := 0) dX6_slack_18 (by decide) ?_
  refine aw_istore_n [(2, .int 0), (0, .ref 0), (1, .int (nI i))] dX6_slack_19 (Nat.le_of_ble_eq_true rfl) rfl ?_
  refine aw_iconst (v := 0) dX6_slack_20 (by decide) ?_
  refine aw_istore_n [(3, .int 0), (2, .int 0), (0, .ref 0), (1, .int (nI i))] dX6_slack_21 (Nat.le_of_ble_eq_true rfl) rfl ?_
  exact lp_slR hd hS hi hpl ((ftM_0 M L (by decide)).trans hp) 256 0 0 _ (by omega) (by omega) (SRr.rf hLn i)
