-- RELAY, BY OUTCOME
theorem sp_X5_relay_b {d : Nat} (hd : 60 ≤ d) {M : xM} (x1 : Int32) (hT : TC M) (hb : sX5_isMode x1 = false) : Sp (fX5_relay d) [.ref 0, .int x1] M (dt (some (.int (-1))) (tX5_report M (-1) (-1))) := by
  refine Sp.of pn_X5 (Nat.le_of_ble_eq_true rfl) (fun h => Bool.noConfusion h) ?_
  refine aw_iload_n dX5_relay_0 1 rfl ?_
  refine aw_callSi [.int x1] [] (sp_X5_isMode (d := d - 1) (by omega) x1 ) dX5_relay_1 ml_X5_215 sm_X5_isMode rfl (dl1 (d := d) (by omega)) rfl rfl (Nat.le_of_ble_eq_true rfl) rfl rfl (Nat.zero_le _) (Nat.zero_le _) ?_
  refine aw_if_ne 14 dX5_relay_4 (by decide) (fun c1 => absurd (bz_0.mpr hb) c1) (fun c1 => ?_)
  refine aw_aload_n dX5_relay_7 0 rfl ?_
  refine aw_iconst (v := -1) dX5_relay_8 (by decide) ?_
  refine aw_iconst (v := -1) dX5_relay_9 (by decide) ?_
  refine aw_callVi [.int (-1), .int (-1)] [] (sp_X5_report (d := d - 1) (by omega) (-1) (-1) hT) dX5_relay_10 ml_X5_138 im_X5_report (hT.s 0 (by decide)) (hT.n 0 (by decide)) rfl rfl (dl1 (d := d) (by omega)) rfl rfl (Nat.le_of_ble_eq_true rfl) rfl rfl (Nat.zero_le _) (Nat.zero_le _) ?_
  refine aw_iret dX5_relay_13 rfl (Nat.zero_le _) (Nat.zero_le _) ?_
  exact ⟨rfl, rfl⟩
theorem sp_X5_relay_f {d : Nat} (hd : 60 ≤ d) {M : xM} {P : xM → Prop} {p f : Nat} (hT : TC M) (hp : mI M 0 10 = nI p) {m : Nat} (hm : m < 3) (hb : sX5_isMode (nI m) = true) (hti : Sp (fX1_takeItem (d - 1)) [.ref 8, .ref 2, .int (nI p)] M (fun r A => r = some (.int 0) ∧ P A)) (hP : ∀ A, P A → TC A ∧ mI A 8 3 = nI f) : Sp (fX5_relay d) [.ref 0, .int (nI m)] M (fun r B => r = some (.int (-10)) ∧ ∃ A, P A ∧ B = tX5_report A (-10) (nI f)) := by
  refine Sp.of pn_X5 (Nat.le_of_ble_eq_true rfl) (fun h => Bool.noConfusion h) ?_
  refine aw_iload_n dX5_relay_0 1 rfl ?_
  refine aw_callSi [.int (nI m)] [] (sp_X5_isMode (d := d - 1) (by omega) (nI m) ) dX5_relay_1 ml_X5_215 sm_X5_isMode rfl (dl1 (d := d) (by omega)) rfl rfl (Nat.le_of_ble_eq_true rfl) rfl rfl (Nat.zero_le _) (Nat.zero_le _) ?_
  refine aw_if_ne 14 dX5_relay_4 (by decide) (fun c1 => ?_) (fun c1 => absurd c1 (bz_n0.mpr hb))
  refine aw_aload_n dX5_relay_14 0 rfl ?_
  refine aw_getR (b := 8) dX5_relay_15 fl_X5_35 rfl (hT.s 0 (by decide)) (hT.n 0 (by decide)) (hT.r 0 4 (by decide) (by decide)) ?_
  refine aw_aload_n dX5_relay_18 0 rfl ?_
  refine aw_getR (b := 2) dX5_relay_19 fl_X5_20 rfl (hT.s 0 (by decide)) (hT.n 0 (by decide)) (hT.r 0 1 (by decide) (by decide)) ?_
  refine aw_aload_n dX5_relay_22 0 rfl ?_
  refine aw_getI dX5_relay_23 fl_X5_64 (hT.s 0 (by decide)) (hT.n 0 (by decide)) ?_
  refine aw_topE hp ?_
  refine aw_callVx [.ref 2, .int (nI p)] [] hti dX5_relay_26 ml_X5_238 im_X1_takeItem (hT.s 8 (by decide)) (hT.n 8 (by decide)) rfl rfl (dl1 (d := d) (by omega)) rfl rfl (Nat.le_of_ble_eq_true rfl) rfl rfl (Nat.zero_le _) (Nat.zero_le _) (fun r A1 hA => ?_)
  obtain ⟨rfl, hA⟩ := hA
  refine aw_cons ?_
  refine aw_if_ne 46 dX5_relay_29 (by decide) (fun c2 => absurd rfl c2) (fun c2 => ?_)
  refine aw_aload_n dX5_relay_32 0 rfl ?_
  refine aw_bipush (v := -10) dX5_relay_33 (by decide) ?_
  refine aw_aload_n dX5_relay_35 0 rfl ?_
  refine aw_getR (b := 8) dX5_relay_36 fl_X5_35 rfl ((hP A1 hA).1.s 0 (by decide)) ((hP A1 hA).1.n 0 (by decide)) ((hP A1 hA).1.r 0 4 (by decide) (by decide)) ?_
  refine aw_getI dX5_relay_39 fl_X5_242 ((hP A1 hA).1.s 8 (by decide)) ((hP A1 hA).1.n 8 (by decide)) ?_
  refine aw_topE (hP A1 hA).2 ?_
  refine aw_callVi [.int (-10), .int (nI f)] [] (sp_X5_report (d := d - 1) (by omega) (-10) (nI f) (hP A1 hA).1) dX5_relay_42 ml_X5_138 im_X5_report ((hP A1 hA).1.s 0 (by decide)) ((hP A1 hA).1.n 0 (by decide)) rfl rfl (dl1 (d := d) (by omega)) rfl rfl (Nat.le_of_ble_eq_true rfl) rfl rfl (Nat.zero_le _) (Nat.zero_le _) ?_
  refine aw_iret dX5_relay_45 rfl (Nat.zero_le _) (Nat.zero_le _) ?_
  exact ⟨rfl, A1, hA, rfl⟩
theorem sp_X5_relay_u {d : Nat} (hd : 60 ≤ d) {M : xM} {P : xM → Prop} {p m len n : Nat} {WA : xM → xM} (hT : TC M) (hb : sX5_isMode (nI m) = true) (hp : mI M 0 10 = nI p) (hti : Sp (fX1_takeItem (d - 1)) [.ref 8, .ref 2, .int (nI p)] M (fun r A => r = some (.int 1) ∧ P A)) (hP : ∀ A, P A → TC A) (hw : ∀ A, P A → Sp (fX4_write (d - 1)) [.ref 50, .int (nI 0), .int (nI m)] A (dt none (WA A))) (hW : ∀ A, P A → TC (WA A) ∧ mI (WA A) 2 1 = nI len ∧ mI (WA A) 6 1 = nI n) (b1 : len ≤ 200) (b2 : n ≤ 1464) (hf : 200 < len + n) : Sp (fX5_relay d) [.ref 0, .int (nI m)] M (fun r B => r = some (.int (-3)) ∧ ∃ A, P A ∧ B = tX5_report (WA A) (-3) (-1)) := by
  refine Sp.of pn_X5 (Nat.le_of_ble_eq_true rfl) (fun h => Bool.noConfusion h) ?_
  refine aw_iload_n dX5_relay_0 1 rfl ?_
  refine aw_callSi [.int (nI m)] [] (sp_X5_isMode (d := d - 1) (by omega) (nI m) ) dX5_relay_1 ml_X5_215 sm_X5_isMode rfl (dl1 (d := d) (by omega)) rfl rfl (Nat.le_of_ble_eq_true rfl) rfl rfl (Nat.zero_le _) (Nat.zero_le _) ?_
  refine aw_if_ne 14 dX5_relay_4 (by decide) (fun c1 => ?_) (fun c1 => absurd c1 (bz_n0.mpr hb))
  refine aw_aload_n dX5_relay_14 0 rfl ?_
  refine aw_getR (b := 8) dX5_relay_15 fl_X5_35 rfl (hT.s 0 (by decide)) (hT.n 0 (by decide)) (hT.r 0 4 (by decide) (by decide)) ?_
  refine aw_aload_n dX5_relay_18 0 rfl ?_
  refine aw_getR (b := 2) dX5_relay_19 fl_X5_20 rfl (hT.s 0 (by decide)) (hT.n 0 (by decide)) (hT.r 0 1 (by decide) (by decide)) ?_
  refine aw_aload_n dX5_relay_22 0 rfl ?_
  refine aw_getI dX5_relay_23 fl_X5_64 (hT.s 0 (by decide)) (hT.n 0 (by decide)) ?_
  refine aw_topE hp ?_
  refine aw_callVx [.ref 2, .int (nI p)] [] hti dX5_relay_26 ml_X5_238 im_X1_takeItem (hT.s 8 (by decide)) (hT.n 8 (by decide)) rfl rfl (dl1 (d := d) (by omega)) rfl rfl (Nat.le_of_ble_eq_true rfl) rfl rfl (Nat.zero_le _) (Nat.zero_le _) (fun r A1 hA => ?_)
  obtain ⟨rfl, hA⟩ := hA
  refine aw_cons ?_
  refine aw_if_ne 46 dX5_relay_29 (by decide) (fun c2 => ?_) (fun c2 => absurd c2 (by decide))
  refine aw_aload_n dX5_relay_46 0 rfl ?_
  refine aw_getR (b := 50) dX5_relay_47 fl_X5_54 rfl ((hP A1 hA).s 0 (by decide)) ((hP A1 hA).n 0 (by decide)) ((hP A1 hA).r 0 7 (by decide) (by decide)) ?_
  refine aw_iconst (v := 0) dX5_relay_50 (by decide) ?_
  refine aw_iload_n dX5_relay_51 1 rfl ?_
  refine aw_callVv [.int 0, .int (nI m)] [] (hw A1 hA) dX5_relay_52 ml_X5_219 im_X4_write ((hP A1 hA).s 50 (by decide)) ((hP A1 hA).n 50 (by decide)) rfl rfl (dl1 (d := d) (by omega)) rfl rfl (Nat.le_of_ble_eq_true rfl) rfl rfl (Nat.zero_le _) (Nat.zero_le _) ?_
  refine aw_aload_n dX5_relay_55 0 rfl ?_
  refine aw_getR (b := 2) dX5_relay_56 fl_X5_20 rfl ((hW A1 hA).1.s 0 (by decide)) ((hW A1 hA).1.n 0 (by decide)) ((hW A1 hA).1.r 0 1 (by decide) (by decide)) ?_
  refine aw_aload_n dX5_relay_59 0 rfl ?_
  refine aw_getR (b := 6) dX5_relay_60 fl_X5_27 rfl ((hW A1 hA).1.s 0 (by decide)) ((hW A1 hA).1.n 0 (by decide)) ((hW A1 hA).1.r 0 3 (by decide) (by decide)) ?_
  refine aw_callVi [.ref 6] [] (sp_ap6_f (d := d - 1) (hW A1 hA).1 (hW A1 hA).2.1 (hW A1 hA).2.2 b1 b2 hf) dX5_relay_63 ml_X5_222 im_X3_append ((hW A1 hA).1.s 2 (by decide)) ((hW A1 hA).1.n 2 (by decide)) rfl rfl (dl1 (d := d) (by omega)) rfl rfl (Nat.le_of_ble_eq_true rfl) rfl rfl (Nat.zero_le _) (Nat.zero_le _) ?_
  refine aw_if_ne 77 dX5_relay_66 (by decide) (fun c3 => absurd rfl c3) (fun c3 => ?_)
  refine aw_aload_n dX5_relay_69 0 rfl ?_
  refine aw_bipush (v := -3) dX5_relay_70 (by decide) ?_
  refine aw_iconst (v := -1) dX5_relay_72 (by decide) ?_
  refine aw_callVi [.int (-3), .int (-1)] [] (sp_X5_report (d := d - 1) (by omega) (-3) (-1) (hW A1 hA).1) dX5_relay_73 ml_X5_138 im_X5_report ((hW A1 hA).1.s 0 (by decide)) ((hW A1 hA).1.n 0 (by decide)) rfl rfl (dl1 (d := d) (by omega)) rfl rfl (Nat.le_of_ble_eq_true rfl) rfl rfl (Nat.zero_le _) (Nat.zero_le _) ?_
  refine aw_iret dX5_relay_76 rfl (Nat.zero_le _) (Nat.zero_le _) ?_
  exact ⟨rfl, A1, hA, rfl⟩
theorem sp_X5_relay_k {d : Nat} (hd : 60 ≤ d) {M : xM} {P : xM → Prop} {p m len n : Nat} {WA : xM → xM} (hT : TC M) (hb : sX5_isMode (nI m) = true) (hp : mI M 0 10 = nI p) (hti : Sp (fX1_takeItem (d - 1)) [.ref 8, .ref 2, .int (nI p)] M (fun r A => r = some (.int 1) ∧ P A)) (hP : ∀ A, P A → TC A) (hw : ∀ A, P A → Sp (fX4_write (d - 1)) [.ref 50, .int (nI 0), .int (nI m)] A (dt none (WA A))) (hW : ∀ A, P A → TC (WA A) ∧ mI (WA A) 2 1 = nI len ∧ mI (WA A) 6 1 = nI n) (b1 : len ≤ 200) (b2 : n ≤ 1464) (hf : len + n ≤ 200) : Sp (fX5_relay d) [.ref 0, .int (nI m)] M (fun r B => r = some (.int (nI n)) ∧ ∃ A, P A ∧ B = tX5_report (apM (WA A) 6 len n) 0 (-1)) := by
  refine Sp.of pn_X5 (Nat.le_of_ble_eq_true rfl) (fun h => Bool.noConfusion h) ?_
  refine aw_iload_n dX5_relay_0 1 rfl ?_
  refine aw_callSi [.int (nI m)] [] (sp_X5_isMode (d := d - 1) (by omega) (nI m) ) dX5_relay_1 ml_X5_215 sm_X5_isMode rfl (dl1 (d := d) (by omega)) rfl rfl (Nat.le_of_ble_eq_true rfl) rfl rfl (Nat.zero_le _) (Nat.zero_le _) ?_
  refine aw_if_ne 14 dX5_relay_4 (by decide) (fun c1 => ?_) (fun c1 => absurd c1 (bz_n0.mpr hb))
  refine aw_aload_n dX5_relay_14 0 rfl ?_
  refine aw_getR (b := 8) dX5_relay_15 fl_X5_35 rfl (hT.s 0 (by decide)) (hT.n 0 (by decide)) (hT.r 0 4 (by decide) (by decide)) ?_
  refine aw_aload_n dX5_relay_18 0 rfl ?_
  refine aw_getR (b := 2) dX5_relay_19 fl_X5_20 rfl (hT.s 0 (by decide)) (hT.n 0 (by decide)) (hT.r 0 1 (by decide) (by decide)) ?_
  refine aw_aload_n dX5_relay_22 0 rfl ?_
  refine aw_getI dX5_relay_23 fl_X5_64 (hT.s 0 (by decide)) (hT.n 0 (by decide)) ?_
  refine aw_topE hp ?_
  refine aw_callVx [.ref 2, .int (nI p)] [] hti dX5_relay_26 ml_X5_238 im_X1_takeItem (hT.s 8 (by decide)) (hT.n 8 (by decide)) rfl rfl (dl1 (d := d) (by omega)) rfl rfl (Nat.le_of_ble_eq_true rfl) rfl rfl (Nat.zero_le _) (Nat.zero_le _) (fun r A1 hA => ?_)
  obtain ⟨rfl, hA⟩ := hA
  refine aw_cons ?_
  refine aw_if_ne 46 dX5_relay_29 (by decide) (fun c2 => ?_) (fun c2 => absurd c2 (by decide))
  refine aw_aload_n dX5_relay_46 0 rfl ?_
  refine aw_getR (b := 50) dX5_relay_47 fl_X5_54 rfl ((hP A1 hA).s 0 (by decide)) ((hP A1 hA).n 0 (by decide)) ((hP A1 hA).r 0 7 (by decide) (by decide)) ?_
  refine aw_iconst (v := 0) dX5_relay_50 (by decide) ?_
  refine aw_iload_n dX5_relay_51 1 rfl ?_
  refine aw_callVv [.int 0, .int (nI m)] [] (hw A1 hA) dX5_relay_52 ml_X5_219 im_X4_write ((hP A1 hA).s 50 (by decide)) ((hP A1 hA).n 50 (by decide)) rfl rfl (dl1 (d := d) (by omega)) rfl rfl (Nat.le_of_ble_eq_true rfl) rfl rfl (Nat.zero_le _) (Nat.zero_le _) ?_
  refine aw_aload_n dX5_relay_55 0 rfl ?_
  refine aw_getR (b := 2) dX5_relay_56 fl_X5_20 rfl ((hW A1 hA).1.s 0 (by decide)) ((hW A1 hA).1.n 0 (by decide)) ((hW A1 hA).1.r 0 1 (by decide) (by decide)) ?_
  refine aw_aload_n dX5_relay_59 0 rfl ?_
  refine aw_getR (b := 6) dX5_relay_60 fl_X5_27 rfl ((hW A1 hA).1.s 0 (by decide)) ((hW A1 hA).1.n 0 (by decide)) ((hW A1 hA).1.r 0 3 (by decide) (by decide)) ?_
  refine aw_callVi [.ref 6] [] (sp_ap6_k (d := d - 1) (by omega) (hW A1 hA).1 (hW A1 hA).2.1 (hW A1 hA).2.2 b1 b2 hf) dX5_relay_63 ml_X5_222 im_X3_append ((hW A1 hA).1.s 2 (by decide)) ((hW A1 hA).1.n 2 (by decide)) rfl rfl (dl1 (d := d) (by omega)) rfl rfl (Nat.le_of_ble_eq_true rfl) rfl rfl (Nat.zero_le _) (Nat.zero_le _) ?_
  refine aw_if_ne 77 dX5_relay_66 (by decide) (fun c3 => ?_) (fun c3 => absurd c3 (by decide))
  refine aw_aload_n dX5_relay_77 0 rfl ?_
  refine aw_iconst (v := 0) dX5_relay_78 (by decide) ?_
  refine aw_iconst (v := -1) dX5_relay_79 (by decide) ?_
  refine aw_callVi [.int 0, .int (-1)] [] (sp_X5_report (d := d - 1) (by omega) 0 (-1) ((sT_apM (WA A1) 6 len n).TC (hW A1 hA).1)) dX5_relay_80 ml_X5_138 im_X5_report (((sT_apM (WA A1) 6 len n).TC (hW A1 hA).1).s 0 (by decide)) (((sT_apM (WA A1) 6 len n).TC (hW A1 hA).1).n 0 (by decide)) rfl rfl (dl1 (d := d) (by omega)) rfl rfl (Nat.le_of_ble_eq_true rfl) rfl rfl (Nat.zero_le _) (Nat.zero_le _) ?_
  refine aw_pop dX5_relay_83 rfl ?_
  refine aw_aload_n dX5_relay_84 0 rfl ?_
  refine aw_getR (b := 6) dX5_relay_85 fl_X5_27 rfl (((sT_X5_report (apM (WA A1) 6 len n) 0 (-1)).TC ((sT_apM (WA A1) 6 len n).TC (hW A1 hA).1)).s 0 (by decide)) (((sT_X5_report (apM (WA A1) 6 len n) 0 (-1)).TC ((sT_apM (WA A1) 6 len n).TC (hW A1 hA).1)).n 0 (by decide)) (((sT_X5_report (apM (WA A1) 6 len n) 0 (-1)).TC ((sT_apM (WA A1) 6 len n).TC (hW A1 hA).1)).r 0 3 (by decide) (by decide)) ?_
  refine aw_getI dX5_relay_88 fl_X5_226 (((sT_X5_report (apM (WA A1) 6 len n) 0 (-1)).TC ((sT_apM (WA A1) 6 len n).TC (hW A1 hA).1)).s 6 (by decide)) (((sT_X5_report (apM (WA A1) 6 len n) 0 (-1)).TC ((sT_apM (WA A1) 6 len n).TC (hW A1 hA).1)).n 6 (by decide)) ?_
  refine aw_topE ((congrFun (show mI (tX5_report (apM (WA A1) 6 len n) 0 (-1)) 6 = mI (WA A1) 6 by unfold tX5_report; rw [mI_stI_c _ _ _ (by decide), mI_stI_c _ _ _ (by decide)]; exact apM_I _ (by decide) (by decide)) 1).trans (hW A1 hA).2.2) ?_
  refine aw_iret dX5_relay_91 rfl (Nat.zero_le _) (Nat.zero_le _) ?_
  exact ⟨rfl, A1, hA, rfl⟩
theorem sp_X6_relay_b {d : Nat} (hd : 60 ≤ d) {M : xM} (x1 : Int32) (hT : TR M) (hb : sX6_isIn x1.toInt64 0 2 = false) : Sp (fX6_relay d) [.ref 0, .int x1] M (dt (some (.int (-1))) (tX6_tells M (-1) (-1))) := by
  refine Sp.of pn_X6 (Nat.le_of_ble_eq_true rfl) (fun h => Bool.noConfusion h) ?_
  refine aw_iload_n dX6_relay_0 1 rfl ?_
  refine aw_i2l dX6_relay_1 ?_
  refine aw_lconst (v := 0) dX6_relay_2 (by decide) ?_
  refine aw_ldc2 dX6_relay_3 kc_X6_304 ?_
  refine aw_callSi [.long (Int32.toInt64 x1), .long 0, .long 2] [] (sp_X6_isIn (d := d - 1) (by omega) (Int32.toInt64 x1) 0 2 ) dX6_relay_6 ml_X6_73 sm_X6_isIn rfl (dl1 (d := d) (by omega)) rfl rfl (Nat.le_of_ble_eq_true rfl) rfl rfl (Nat.zero_le _) (Nat.zero_le _) ?_
  refine aw_if_ne 19 dX6_relay_9 (by decide) (fun c1 => absurd (bz_0.mpr hb) c1) (fun c1 => ?_)
  refine aw_aload_n dX6_relay_12 0 rfl ?_
  refine aw_iconst (v := -1) dX6_relay_13 (by decide) ?_
  refine aw_iconst (v := -1) dX6_relay_14 (by decide) ?_
  refine aw_callVi [.int (-1), .int (-1)] [] (sp_X6_tells (d := d - 1) (by omega) (-1) (-1) hT) dX6_relay_15 ml_X6_192 im_X6_tells (hT.s 0 (by decide)) (hT.n 0 (by decide)) rfl rfl (dl1 (d := d) (by omega)) rfl rfl (Nat.le_of_ble_eq_true rfl) rfl rfl (Nat.zero_le _) (Nat.zero_le _) ?_
  refine aw_iret dX6_relay_18 rfl (Nat.zero_le _) (Nat.zero_le _) ?_
  exact ⟨rfl, rfl⟩
theorem sp_X6_relay_f {d : Nat} (hd : 60 ≤ d) {M : xM} {P : xM → Prop} {p L f : Nat} (hT : TR M) (hl : mI M 0 6 = nI L) (bl : L ≤ 200) (hp : mI M 0 7 = nI p) {m : Nat} (hm : m < 3) (hb : sX6_isIn (lN m) 0 2 = true) (hri : Sp (fX6_readsItem (d - 1)) [.ref 0, .int (nI p)] (ftM M L) (fun r C => (∃ y, r = some (.int y)) ∧ P C)) (hf : f < 2 ^ 31) (hP : ∀ C, P C → TR C ∧ mI C 0 25 = nI f) : Sp (fX6_relay d) [.ref 0, .int (nI m)] M (fun r B => r = some (.int (-10)) ∧ ∃ C, P C ∧ B = tX6_tells C (-10) (nI f)) := by
  refine Sp.of pn_X6 (Nat.le_of_ble_eq_true rfl) (fun h => Bool.noConfusion h) ?_
  refine aw_iload_n dX6_relay_0 1 rfl ?_
  refine aw_i2lN m dX6_relay_1 rfl (by omega) ?_
  refine aw_lconst (v := 0) dX6_relay_2 (by decide) ?_
  refine aw_ldc2 dX6_relay_3 kc_X6_304 ?_
  refine aw_callSi [.long (lN m), .long 0, .long 2] [] (sp_X6_isIn (d := d - 1) (by omega) (lN m) 0 2 ) dX6_relay_6 ml_X6_73 sm_X6_isIn rfl (dl1 (d := d) (by omega)) rfl rfl (Nat.le_of_ble_eq_true rfl) rfl rfl (Nat.zero_le _) (Nat.zero_le _) ?_
  refine aw_if_ne 19 dX6_relay_9 (by decide) (fun c1 => ?_) (fun c1 => absurd c1 (bz_n0.mpr hb))
  refine aw_aload_n dX6_relay_19 0 rfl ?_
  refine aw_callVv [] [] (sp_ft (d := d - 1) hT hl bl) dX6_relay_20 ml_X6_369 im_X6_fromTape (hT.s 0 (by decide)) (hT.n 0 (by decide)) rfl rfl (dl1 (d := d) (by omega)) rfl rfl (Nat.le_of_ble_eq_true rfl) rfl rfl (Nat.zero_le _) (Nat.zero_le _) ?_
  refine aw_aload_n dX6_relay_23 0 rfl ?_
  refine aw_aload_n dX6_relay_24 0 rfl ?_
  refine aw_getI dX6_relay_25 fl_X6_366 (((sT_ftM M L).TR hT).s 0 (by decide)) (((sT_ftM M L).TR hT).n 0 (by decide)) ?_
  refine aw_topE ((ftM_0 M L (by decide)).trans hp) ?_
  refine aw_callVx [.int (nI p)] [] hri dX6_relay_28 ml_X6_372 im_X6_readsItem (((sT_ftM M L).TR hT).s 0 (by decide)) (((sT_ftM M L).TR hT).n 0 (by decide)) rfl rfl (dl1 (d := d) (by omega)) rfl rfl (Nat.le_of_ble_eq_true rfl) rfl rfl (Nat.zero_le _) (Nat.zero_le _) (fun r C1 hC => ?_)
  obtain ⟨⟨y, rfl⟩, hC⟩ := hC
  refine aw_cons ?_
  refine aw_pop dX6_relay_31 rfl ?_
  refine aw_aload_n dX6_relay_32 0 rfl ?_
  refine aw_getI dX6_relay_33 fl_X6_283 ((hP C1 hC).1.s 0 (by decide)) ((hP C1 hC).1.n 0 (by decide)) ?_
  refine aw_topE (hP C1 hC).2 ?_
  refine aw_if_lt 50 dX6_relay_36 (by decide) (fun c2 => absurd c2 (nI_nn (by omega))) (fun c2 => ?_)
  refine aw_aload_n dX6_relay_39 0 rfl ?_
  refine aw_bipush (v := -10) dX6_relay_40 (by decide) ?_
  refine aw_aload_n dX6_relay_42 0 rfl ?_
  refine aw_getI dX6_relay_43 fl_X6_283 ((hP C1 hC).1.s 0 (by decide)) ((hP C1 hC).1.n 0 (by decide)) ?_
  refine aw_topE (hP C1 hC).2 ?_
  refine aw_callVi [.int (-10), .int (nI f)] [] (sp_X6_tells (d := d - 1) (by omega) (-10) (nI f) (hP C1 hC).1) dX6_relay_46 ml_X6_192 im_X6_tells ((hP C1 hC).1.s 0 (by decide)) ((hP C1 hC).1.n 0 (by decide)) rfl rfl (dl1 (d := d) (by omega)) rfl rfl (Nat.le_of_ble_eq_true rfl) rfl rfl (Nat.zero_le _) (Nat.zero_le _) ?_
  refine aw_iret dX6_relay_49 rfl (Nat.zero_le _) (Nat.zero_le _) ?_
  exact ⟨rfl, C1, hC, rfl⟩
theorem sp_X6_relay_u {d : Nat} (hd : 60 ≤ d) {M : xM} {P Q1 Q2 : xM → Prop} {p L m : Nat} {q x : Int32} (hT : TR M) (hl : mI M 0 6 = nI L) (bl : L ≤ 200) (hp : mI M 0 7 = nI p) (hm : m < 3) (hb : sX6_isIn (lN m) 0 2 = true) (hri : Sp (fX6_readsItem (d - 1)) [.ref 0, .int (nI p)] (ftM M L) (fun r C => r = some (.int q) ∧ P C)) (hP : ∀ C, P C → TR C ∧ mI C 0 25 = -1) (hla : ∀ C, P C → Sp (fX6_laysAll (d - 1)) [.ref 0, .int 12, .int (nI m)] C (fun r D => r = some (.int x) ∧ Q1 D)) (hTD : ∀ D, Q1 D → TR D) (hTE : ∀ D, Q2 D → TR D) (hco : ∀ D, Q1 D → Sp (fX6_comes (d - 1)) [.ref 0] D (fun r E => r = some (.int (-3)) ∧ Q2 E)) : Sp (fX6_relay d) [.ref 0, .int (nI m)] M (fun r B => r = some (.int (-3)) ∧ ∃ E, Q2 E ∧ B = tX6_tells E (-3) (-1)) := by
  refine Sp.of pn_X6 (Nat.le_of_ble_eq_true rfl) (fun h => Bool.noConfusion h) ?_
  refine aw_iload_n dX6_relay_0 1 rfl ?_
  refine aw_i2lN m dX6_relay_1 rfl (by omega) ?_
  refine aw_lconst (v := 0) dX6_relay_2 (by decide) ?_
  refine aw_ldc2 dX6_relay_3 kc_X6_304 ?_
  refine aw_callSi [.long (lN m), .long 0, .long 2] [] (sp_X6_isIn (d := d - 1) (by omega) (lN m) 0 2 ) dX6_relay_6 ml_X6_73 sm_X6_isIn rfl (dl1 (d := d) (by omega)) rfl rfl (Nat.le_of_ble_eq_true rfl) rfl rfl (Nat.zero_le _) (Nat.zero_le _) ?_
  refine aw_if_ne 19 dX6_relay_9 (by decide) (fun c1 => ?_) (fun c1 => absurd c1 (bz_n0.mpr hb))
  refine aw_aload_n dX6_relay_19 0 rfl ?_
  refine aw_callVv [] [] (sp_ft (d := d - 1) hT hl bl) dX6_relay_20 ml_X6_369 im_X6_fromTape (hT.s 0 (by decide)) (hT.n 0 (by decide)) rfl rfl (dl1 (d := d) (by omega)) rfl rfl (Nat.le_of_ble_eq_true rfl) rfl rfl (Nat.zero_le _) (Nat.zero_le _) ?_
  refine aw_aload_n dX6_relay_23 0 rfl ?_
  refine aw_aload_n dX6_relay_24 0 rfl ?_
  refine aw_getI dX6_relay_25 fl_X6_366 (((sT_ftM M L).TR hT).s 0 (by decide)) (((sT_ftM M L).TR hT).n 0 (by decide)) ?_
  refine aw_topE ((ftM_0 M L (by decide)).trans hp) ?_
  refine aw_callVx [.int (nI p)] [] hri dX6_relay_28 ml_X6_372 im_X6_readsItem (((sT_ftM M L).TR hT).s 0 (by decide)) (((sT_ftM M L).TR hT).n 0 (by decide)) rfl rfl (dl1 (d := d) (by omega)) rfl rfl (Nat.le_of_ble_eq_true rfl) rfl rfl (Nat.zero_le _) (Nat.zero_le _) (fun r C1 hC => ?_)
  obtain ⟨rfl, hC⟩ := hC
  refine aw_cons ?_
  refine aw_pop dX6_relay_31 rfl ?_
  refine aw_aload_n dX6_relay_32 0 rfl ?_
  refine aw_getI dX6_relay_33 fl_X6_283 ((hP C1 hC).1.s 0 (by decide)) ((hP C1 hC).1.n 0 (by decide)) ?_
  refine aw_topE (hP C1 hC).2 ?_
  refine aw_if_lt 50 dX6_relay_36 (by decide) (fun c2 => ?_) (fun c2 => absurd (by decide) c2)
  refine aw_aload_n dX6_relay_50 0 rfl ?_
  refine aw_bipush (v := 12) dX6_relay_51 (by decide) ?_
  refine aw_iload_n dX6_relay_53 1 rfl ?_
  refine aw_callVx [.int 12, .int (nI m)] [] (hla C1 hC) dX6_relay_54 ml_X6_360 im_X6_laysAll ((hP C1 hC).1.s 0 (by decide)) ((hP C1 hC).1.n 0 (by decide)) rfl rfl (dl1 (d := d) (by omega)) rfl rfl (Nat.le_of_ble_eq_true rfl) rfl rfl (Nat.zero_le _) (Nat.zero_le _) (fun r D1 hD => ?_)
  obtain ⟨rfl, hD⟩ := hD
  refine aw_cons ?_
  refine aw_pop dX6_relay_57 rfl ?_
  refine aw_aload_n dX6_relay_58 0 rfl ?_
  refine aw_callVx [] [] (hco D1 hD) dX6_relay_59 ml_X6_363 im_X6_comes ((hTD D1 hD).s 0 (by decide)) ((hTD D1 hD).n 0 (by decide)) rfl rfl (dl1 (d := d) (by omega)) rfl rfl (Nat.le_of_ble_eq_true rfl) rfl rfl (Nat.zero_le _) (Nat.zero_le _) (fun r E1 hE => ?_)
  obtain ⟨rfl, hE⟩ := hE
  refine aw_cons ?_
  refine aw_istore_n [(2, .int (-3)), (0, .ref 0), (1, .int (nI m))] dX6_relay_62 (Nat.le_of_ble_eq_true rfl) rfl ?_
  refine aw_aload_n dX6_relay_63 1 rfl ?_
  refine aw_iload_n dX6_relay_64 0 rfl ?_
  refine aw_if_ge 72 dX6_relay_65 (by decide) (fun c3 => absurd c3 (by decide)) (fun c3 => ?_)
  refine aw_iload_n dX6_relay_68 0 rfl ?_
  refine aw_goto 73 dX6_relay_69 (by decide) ?_
  refine aw_iconst (v := -1) dX6_relay_73 (by decide) ?_
  refine aw_callVi [.int (-3), .int (-1)] [] (sp_X6_tells (d := d - 1) (by omega) (-3) (-1) (hTE E1 hE)) dX6_relay_74 ml_X6_192 im_X6_tells ((hTE E1 hE).s 0 (by decide)) ((hTE E1 hE).n 0 (by decide)) rfl rfl (dl1 (d := d) (by omega)) rfl rfl (Nat.le_of_ble_eq_true rfl) rfl rfl (Nat.zero_le _) (Nat.zero_le _) ?_
  refine aw_pop dX6_relay_77 rfl ?_
  refine aw_iload_n dX6_relay_78 0 rfl ?_
  refine aw_iret dX6_relay_79 rfl (Nat.zero_le _) (Nat.zero_le _) ?_
  exact ⟨rfl, E1, hE, rfl⟩
theorem sp_X6_relay_k {d : Nat} (hd : 60 ≤ d) {M : xM} {n : Nat} (hn : n < 2 ^ 31) {P Q1 Q2 : xM → Prop} {p L m : Nat} {q x : Int32} (hT : TR M) (hl : mI M 0 6 = nI L) (bl : L ≤ 200) (hp : mI M 0 7 = nI p) (hm : m < 3) (hb : sX6_isIn (lN m) 0 2 = true) (hri : Sp (fX6_readsItem (d - 1)) [.ref 0, .int (nI p)] (ftM M L) (fun r C => r = some (.int q) ∧ P C)) (hP : ∀ C, P C → TR C ∧ mI C 0 25 = -1) (hla : ∀ C, P C → Sp (fX6_laysAll (d - 1)) [.ref 0, .int 12, .int (nI m)] C (fun r D => r = some (.int x) ∧ Q1 D)) (hTD : ∀ D, Q1 D → TR D) (hTE : ∀ D, Q2 D → TR D) (hco : ∀ D, Q1 D → Sp (fX6_comes (d - 1)) [.ref 0] D (fun r E => r = some (.int (nI n)) ∧ Q2 E)) : Sp (fX6_relay d) [.ref 0, .int (nI m)] M (fun r B => r = some (.int (nI n)) ∧ ∃ E, Q2 E ∧ B = tX6_tells E 0 (-1)) := by
  refine Sp.of pn_X6 (Nat.le_of_ble_eq_true rfl) (fun h => Bool.noConfusion h) ?_
  refine aw_iload_n dX6_relay_0 1 rfl ?_
  refine aw_i2lN m dX6_relay_1 rfl (by omega) ?_
  refine aw_lconst (v := 0) dX6_relay_2 (by decide) ?_
  refine aw_ldc2 dX6_relay_3 kc_X6_304 ?_
  refine aw_callSi [.long (lN m), .long 0, .long 2] [] (sp_X6_isIn (d := d - 1) (by omega) (lN m) 0 2 ) dX6_relay_6 ml_X6_73 sm_X6_isIn rfl (dl1 (d := d) (by omega)) rfl rfl (Nat.le_of_ble_eq_true rfl) rfl rfl (Nat.zero_le _) (Nat.zero_le _) ?_
  refine aw_if_ne 19 dX6_relay_9 (by decide) (fun c1 => ?_) (fun c1 => absurd c1 (bz_n0.mpr hb))
  refine aw_aload_n dX6_relay_19 0 rfl ?_
  refine aw_callVv [] [] (sp_ft (d := d - 1) hT hl bl) dX6_relay_20 ml_X6_369 im_X6_fromTape (hT.s 0 (by decide)) (hT.n 0 (by decide)) rfl rfl (dl1 (d := d) (by omega)) rfl rfl (Nat.le_of_ble_eq_true rfl) rfl rfl (Nat.zero_le _) (Nat.zero_le _) ?_
  refine aw_aload_n dX6_relay_23 0 rfl ?_
  refine aw_aload_n dX6_relay_24 0 rfl ?_
  refine aw_getI dX6_relay_25 fl_X6_366 (((sT_ftM M L).TR hT).s 0 (by decide)) (((sT_ftM M L).TR hT).n 0 (by decide)) ?_
  refine aw_topE ((ftM_0 M L (by decide)).trans hp) ?_
  refine aw_callVx [.int (nI p)] [] hri dX6_relay_28 ml_X6_372 im_X6_readsItem (((sT_ftM M L).TR hT).s 0 (by decide)) (((sT_ftM M L).TR hT).n 0 (by decide)) rfl rfl (dl1 (d := d) (by omega)) rfl rfl (Nat.le_of_ble_eq_true rfl) rfl rfl (Nat.zero_le _) (Nat.zero_le _) (fun r C1 hC => ?_)
  obtain ⟨rfl, hC⟩ := hC
  refine aw_cons ?_
  refine aw_pop dX6_relay_31 rfl ?_
  refine aw_aload_n dX6_relay_32 0 rfl ?_
  refine aw_getI dX6_relay_33 fl_X6_283 ((hP C1 hC).1.s 0 (by decide)) ((hP C1 hC).1.n 0 (by decide)) ?_
  refine aw_topE (hP C1 hC).2 ?_
  refine aw_if_lt 50 dX6_relay_36 (by decide) (fun c2 => ?_) (fun c2 => absurd (by decide) c2)
  refine aw_aload_n dX6_relay_50 0 rfl ?_
  refine aw_bipush (v := 12) dX6_relay_51 (by decide) ?_
  refine aw_iload_n dX6_relay_53 1 rfl ?_
  refine aw_callVx [.int 12, .int (nI m)] [] (hla C1 hC) dX6_relay_54 ml_X6_360 im_X6_laysAll ((hP C1 hC).1.s 0 (by decide)) ((hP C1 hC).1.n 0 (by decide)) rfl rfl (dl1 (d := d) (by omega)) rfl rfl (Nat.le_of_ble_eq_true rfl) rfl rfl (Nat.zero_le _) (Nat.zero_le _) (fun r D1 hD => ?_)
  obtain ⟨rfl, hD⟩ := hD
  refine aw_cons ?_
  refine aw_pop dX6_relay_57 rfl ?_
  refine aw_aload_n dX6_relay_58 0 rfl ?_
  refine aw_callVx [] [] (hco D1 hD) dX6_relay_59 ml_X6_363 im_X6_comes ((hTD D1 hD).s 0 (by decide)) ((hTD D1 hD).n 0 (by decide)) rfl rfl (dl1 (d := d) (by omega)) rfl rfl (Nat.le_of_ble_eq_true rfl) rfl rfl (Nat.zero_le _) (Nat.zero_le _) (fun r E1 hE => ?_)
  obtain ⟨rfl, hE⟩ := hE
  refine aw_cons ?_
  refine aw_istore_n [(2, .int (nI n)), (0, .ref 0), (1, .int (nI m))] dX6_relay_62 (Nat.le_of_ble_eq_true rfl) rfl ?_
  refine aw_aload_n dX6_relay_63 1 rfl ?_
  refine aw_iload_n dX6_relay_64 0 rfl ?_
  refine aw_if_ge 72 dX6_relay_65 (by decide) (fun c3 => ?_) (fun c3 => absurd (Int32.not_lt.mp (nI_nn (by omega))) c3)
  refine aw_iconst (v := 0) dX6_relay_72 (by decide) ?_
  refine aw_iconst (v := -1) dX6_relay_73 (by decide) ?_
  refine aw_callVi [.int 0, .int (-1)] [] (sp_X6_tells (d := d - 1) (by omega) 0 (-1) (hTE E1 hE)) dX6_relay_74 ml_X6_192 im_X6_tells ((hTE E1 hE).s 0 (by decide)) ((hTE E1 hE).n 0 (by decide)) rfl rfl (dl1 (d := d) (by omega)) rfl rfl (Nat.le_of_ble_eq_true rfl) rfl rfl (Nat.zero_le _) (Nat.zero_le _) ?_
  refine aw_pop dX6_relay_77 rfl ?_
  refine aw_iload_n dX6_relay_78 0 rfl ?_
  refine aw_iret dX6_relay_79 rfl (Nat.zero_le _) (Nat.zero_le _) ?_
  exact ⟨rfl, E1, hE, rfl⟩
