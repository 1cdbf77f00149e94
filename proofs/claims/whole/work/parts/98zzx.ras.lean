-- READAS, BY OUTCOME
theorem sp_X5_readAs_b1 {d : Nat} (hd : 60 ≤ d) {M : xM} (x1 : Int32) (hT : TC M) (h : x1 < 0) : Sp (fX5_readAs d) [.ref 0, .int x1] M (dt (some (.int (-1))) (tX5_report M (-1) (-1))) := by
  refine Sp.of pn_X5 (Nat.le_of_ble_eq_true rfl) (fun h => Bool.noConfusion h) ?_
  refine aw_iload_n dX5_readAs_0 1 rfl ?_
  refine aw_if_lt 10 dX5_readAs_1 (by decide) (fun c1 => ?_) (fun c1 => absurd h c1)
  refine aw_aload_n dX5_readAs_10 0 rfl ?_
  refine aw_iconst (v := -1) dX5_readAs_11 (by decide) ?_
  refine aw_iconst (v := -1) dX5_readAs_12 (by decide) ?_
  refine aw_callVi [.int (-1), .int (-1)] [] (sp_X5_report (d := d - 1) (by omega) (-1) (-1) hT) dX5_readAs_13 ml_X5_138 im_X5_report (hT.s 0 (by decide)) (hT.n 0 (by decide)) rfl rfl (dl1 (d := d) (by omega)) rfl rfl (Nat.le_of_ble_eq_true rfl) rfl rfl (Nat.zero_le _) (Nat.zero_le _) ?_
  refine aw_iret dX5_readAs_16 rfl (Nat.zero_le _) (Nat.zero_le _) ?_
  exact ⟨rfl, rfl⟩
theorem sp_X5_readAs_b2 {d : Nat} (hd : 60 ≤ d) {M : xM} (x1 : Int32) (hT : TC M) (h : ¬ x1 < 0) (h2 : ¬ x1 ≤ 13) : Sp (fX5_readAs d) [.ref 0, .int x1] M (dt (some (.int (-1))) (tX5_report M (-1) (-1))) := by
  refine Sp.of pn_X5 (Nat.le_of_ble_eq_true rfl) (fun h => Bool.noConfusion h) ?_
  refine aw_iload_n dX5_readAs_0 1 rfl ?_
  refine aw_if_lt 10 dX5_readAs_1 (by decide) (fun c1 => absurd c1 h) (fun c1 => ?_)
  refine aw_iload_n dX5_readAs_4 1 rfl ?_
  refine aw_bipush (v := 13) dX5_readAs_5 (by decide) ?_
  refine aw_icmp_le 17 dX5_readAs_7 (by decide) (fun c2 => absurd c2 h2) (fun c2 => ?_)
  refine aw_aload_n dX5_readAs_10 0 rfl ?_
  refine aw_iconst (v := -1) dX5_readAs_11 (by decide) ?_
  refine aw_iconst (v := -1) dX5_readAs_12 (by decide) ?_
  refine aw_callVi [.int (-1), .int (-1)] [] (sp_X5_report (d := d - 1) (by omega) (-1) (-1) hT) dX5_readAs_13 ml_X5_138 im_X5_report (hT.s 0 (by decide)) (hT.n 0 (by decide)) rfl rfl (dl1 (d := d) (by omega)) rfl rfl (Nat.le_of_ble_eq_true rfl) rfl rfl (Nat.zero_le _) (Nat.zero_le _) ?_
  refine aw_iret dX5_readAs_16 rfl (Nat.zero_le _) (Nat.zero_le _) ?_
  exact ⟨rfl, rfl⟩
theorem sp_X5_readAs_f {d : Nat} (hd : 60 ≤ d) {M : xM} {P : xM → Prop} {p f : Nat} (hT : TC M) (hp : mI M 0 10 = nI p) {b : Nat} (hb : b < 14) (hti : Sp (fX1_takeItem (d - 1)) [.ref 8, .ref 2, .int (nI p)] M (fun r A => r = some (.int 0) ∧ P A)) (hP : ∀ A, P A → TC A ∧ mI A 8 3 = nI f) : Sp (fX5_readAs d) [.ref 0, .int (nI b)] M (fun r B => r = some (.int (-10)) ∧ ∃ A, P A ∧ B = tX5_report A (-10) (nI f)) := by
  refine Sp.of pn_X5 (Nat.le_of_ble_eq_true rfl) (fun h => Bool.noConfusion h) ?_
  refine aw_iload_n dX5_readAs_0 1 rfl ?_
  refine aw_if_lt 10 dX5_readAs_1 (by decide) (fun c1 => absurd c1 (nI_nn (by omega))) (fun c1 => ?_)
  refine aw_iload_n dX5_readAs_4 1 rfl ?_
  refine aw_bipush (v := 13) dX5_readAs_5 (by decide) ?_
  refine aw_icmp_leN b 13 17 dX5_readAs_7 (by decide) rfl rfl (by omega) (by omega) (fun c2 => ?_) (fun c2 => absurd (by omega) c2)
  refine aw_aload_n dX5_readAs_17 0 rfl ?_
  refine aw_getR (b := 8) dX5_readAs_18 fl_X5_35 rfl (hT.s 0 (by decide)) (hT.n 0 (by decide)) (hT.r 0 4 (by decide) (by decide)) ?_
  refine aw_aload_n dX5_readAs_21 0 rfl ?_
  refine aw_getR (b := 2) dX5_readAs_22 fl_X5_20 rfl (hT.s 0 (by decide)) (hT.n 0 (by decide)) (hT.r 0 1 (by decide) (by decide)) ?_
  refine aw_aload_n dX5_readAs_25 0 rfl ?_
  refine aw_getI dX5_readAs_26 fl_X5_64 (hT.s 0 (by decide)) (hT.n 0 (by decide)) ?_
  refine aw_topE hp ?_
  refine aw_callVx [.ref 2, .int (nI p)] [] hti dX5_readAs_29 ml_X5_238 im_X1_takeItem (hT.s 8 (by decide)) (hT.n 8 (by decide)) rfl rfl (dl1 (d := d) (by omega)) rfl rfl (Nat.le_of_ble_eq_true rfl) rfl rfl (Nat.zero_le _) (Nat.zero_le _) (fun r A1 hA => ?_)
  obtain ⟨rfl, hA⟩ := hA
  refine aw_cons ?_
  refine aw_if_ne 49 dX5_readAs_32 (by decide) (fun c3 => absurd rfl c3) (fun c3 => ?_)
  refine aw_aload_n dX5_readAs_35 0 rfl ?_
  refine aw_bipush (v := -10) dX5_readAs_36 (by decide) ?_
  refine aw_aload_n dX5_readAs_38 0 rfl ?_
  refine aw_getR (b := 8) dX5_readAs_39 fl_X5_35 rfl ((hP A1 hA).1.s 0 (by decide)) ((hP A1 hA).1.n 0 (by decide)) ((hP A1 hA).1.r 0 4 (by decide) (by decide)) ?_
  refine aw_getI dX5_readAs_42 fl_X5_242 ((hP A1 hA).1.s 8 (by decide)) ((hP A1 hA).1.n 8 (by decide)) ?_
  refine aw_topE (hP A1 hA).2 ?_
  refine aw_callVi [.int (-10), .int (nI f)] [] (sp_X5_report (d := d - 1) (by omega) (-10) (nI f) (hP A1 hA).1) dX5_readAs_45 ml_X5_138 im_X5_report ((hP A1 hA).1.s 0 (by decide)) ((hP A1 hA).1.n 0 (by decide)) rfl rfl (dl1 (d := d) (by omega)) rfl rfl (Nat.le_of_ble_eq_true rfl) rfl rfl (Nat.zero_le _) (Nat.zero_le _) ?_
  refine aw_iret dX5_readAs_48 rfl (Nat.zero_le _) (Nat.zero_le _) ?_
  exact ⟨rfl, A1, hA, rfl⟩
theorem sp_X5_readAs_n {d : Nat} (hd : 60 ≤ d) {M : xM} {P : xM → Prop} {p b : Nat} (hT : TC M) (hb : b < 14) (hp : mI M 0 10 = nI p) (hti : Sp (fX1_takeItem (d - 1)) [.ref 8, .ref 2, .int (nI p)] M (fun r A => r = some (.int 1) ∧ P A)) (hP : ∀ A, P A → TC A) (hia : ∀ A, P A → sX2_isArray A (10 + 3 * 0) = false)  : Sp (fX5_readAs d) [.ref 0, .int (nI b)] M (fun r B => r = some (.int (-6)) ∧ ∃ A, P A ∧ B = tX5_report A (-6) (-1)) := by
  refine Sp.of pn_X5 (Nat.le_of_ble_eq_true rfl) (fun h => Bool.noConfusion h) ?_
  refine aw_iload_n dX5_readAs_0 1 rfl ?_
  refine aw_if_lt 10 dX5_readAs_1 (by decide) (fun c1 => absurd c1 (nI_nn (by omega))) (fun c1 => ?_)
  refine aw_iload_n dX5_readAs_4 1 rfl ?_
  refine aw_bipush (v := 13) dX5_readAs_5 (by decide) ?_
  refine aw_icmp_leN b 13 17 dX5_readAs_7 (by decide) rfl rfl (by omega) (by omega) (fun c2 => ?_) (fun c2 => absurd (by omega) c2)
  refine aw_aload_n dX5_readAs_17 0 rfl ?_
  refine aw_getR (b := 8) dX5_readAs_18 fl_X5_35 rfl (hT.s 0 (by decide)) (hT.n 0 (by decide)) (hT.r 0 4 (by decide) (by decide)) ?_
  refine aw_aload_n dX5_readAs_21 0 rfl ?_
  refine aw_getR (b := 2) dX5_readAs_22 fl_X5_20 rfl (hT.s 0 (by decide)) (hT.n 0 (by decide)) (hT.r 0 1 (by decide) (by decide)) ?_
  refine aw_aload_n dX5_readAs_25 0 rfl ?_
  refine aw_getI dX5_readAs_26 fl_X5_64 (hT.s 0 (by decide)) (hT.n 0 (by decide)) ?_
  refine aw_topE hp ?_
  refine aw_callVx [.ref 2, .int (nI p)] [] hti dX5_readAs_29 ml_X5_238 im_X1_takeItem (hT.s 8 (by decide)) (hT.n 8 (by decide)) rfl rfl (dl1 (d := d) (by omega)) rfl rfl (Nat.le_of_ble_eq_true rfl) rfl rfl (Nat.zero_le _) (Nat.zero_le _) (fun r A1 hA => ?_)
  obtain ⟨rfl, hA⟩ := hA
  refine aw_cons ?_
  refine aw_if_ne 49 dX5_readAs_32 (by decide) (fun c3 => ?_) (fun c3 => absurd c3 (by decide))
  refine aw_aload_n dX5_readAs_49 0 rfl ?_
  refine aw_getR (b := 8) dX5_readAs_50 fl_X5_35 rfl ((hP A1 hA).s 0 (by decide)) ((hP A1 hA).n 0 (by decide)) ((hP A1 hA).r 0 4 (by decide) (by decide)) ?_
  refine aw_getR (b := 9) dX5_readAs_53 fl_X5_51 rfl ((hP A1 hA).s 8 (by decide)) ((hP A1 hA).n 8 (by decide)) ((hP A1 hA).r 8 0 (by decide) (by decide)) ?_
  refine aw_iconst (v := 0) dX5_readAs_56 (by decide) ?_
  refine aw_aaldN 0 (10 + 3 * 0) dX5_readAs_57 ((hP A1 hA).s 9 (by decide)) ((hP A1 hA).n 9 (by decide)) rfl (by omega) (by first | decide | omega) ((hP A1 hA).rslot (by omega)) ?_
  refine aw_astore_n [(2, .ref (10 + 3 * 0)), (0, .ref 0), (1, .int (nI b))] dX5_readAs_58 (Nat.le_of_ble_eq_true rfl) rfl ?_
  refine aw_aload_n dX5_readAs_59 0 rfl ?_
  refine aw_callVi [] [] (sp_X2_isArray (d := d - 1) (by omega)  ((hP A1 hA).rrow (t := 0) (by omega))) dX5_readAs_60 ml_X5_251 im_X2_isArray ((hP A1 hA).rrow (t := 0) (by omega)).1 ((hP A1 hA).rrow (t := 0) (by omega)).n0 rfl rfl (dl1 (d := d) (by omega)) rfl rfl (Nat.le_of_ble_eq_true rfl) rfl rfl (Nat.zero_le _) (Nat.zero_le _) ?_
  refine aw_if_ne 74 dX5_readAs_63 (by decide) (fun c4 => absurd (bz_0.mpr (hia A1 hA)) c4) (fun c4 => ?_)
  refine aw_aload_n dX5_readAs_66 1 rfl ?_
  refine aw_bipush (v := -6) dX5_readAs_67 (by decide) ?_
  refine aw_iconst (v := -1) dX5_readAs_69 (by decide) ?_
  refine aw_callVi [.int (-6), .int (-1)] [] (sp_X5_report (d := d - 1) (by omega) (-6) (-1) (hP A1 hA)) dX5_readAs_70 ml_X5_138 im_X5_report ((hP A1 hA).s 0 (by decide)) ((hP A1 hA).n 0 (by decide)) rfl rfl (dl1 (d := d) (by omega)) rfl rfl (Nat.le_of_ble_eq_true rfl) rfl rfl (Nat.zero_le _) (Nat.zero_le _) ?_
  refine aw_iret dX5_readAs_73 rfl (Nat.zero_le _) (Nat.zero_le _) ?_
  exact ⟨rfl, A1, hA, rfl⟩
theorem sp_X5_readAs_a {d : Nat} (hd : 60 ≤ d) {M : xM} {P : xM → Prop} {p b : Nat} (hT : TC M) (hb : b < 14) (hp : mI M 0 10 = nI p) (hti : Sp (fX1_takeItem (d - 1)) [.ref 8, .ref 2, .int (nI p)] M (fun r A => r = some (.int 1) ∧ P A)) (hP : ∀ A, P A → TC A) (hia : ∀ A, P A → sX2_isArray A (10 + 3 * 0) = true) (hho : ∀ A, P A → Sp (fX2_holdsArray (d - 1)) [.ref (10 + 3 * 0)] A (dt (some (.int (bz true))) A))  : Sp (fX5_readAs d) [.ref 0, .int (nI b)] M (fun r B => r = some (.int (-2)) ∧ ∃ A, P A ∧ B = tX5_report A (-2) (-1)) := by
  refine Sp.of pn_X5 (Nat.le_of_ble_eq_true rfl) (fun h => Bool.noConfusion h) ?_
  refine aw_iload_n dX5_readAs_0 1 rfl ?_
  refine aw_if_lt 10 dX5_readAs_1 (by decide) (fun c1 => absurd c1 (nI_nn (by omega))) (fun c1 => ?_)
  refine aw_iload_n dX5_readAs_4 1 rfl ?_
  refine aw_bipush (v := 13) dX5_readAs_5 (by decide) ?_
  refine aw_icmp_leN b 13 17 dX5_readAs_7 (by decide) rfl rfl (by omega) (by omega) (fun c2 => ?_) (fun c2 => absurd (by omega) c2)
  refine aw_aload_n dX5_readAs_17 0 rfl ?_
  refine aw_getR (b := 8) dX5_readAs_18 fl_X5_35 rfl (hT.s 0 (by decide)) (hT.n 0 (by decide)) (hT.r 0 4 (by decide) (by decide)) ?_
  refine aw_aload_n dX5_readAs_21 0 rfl ?_
  refine aw_getR (b := 2) dX5_readAs_22 fl_X5_20 rfl (hT.s 0 (by decide)) (hT.n 0 (by decide)) (hT.r 0 1 (by decide) (by decide)) ?_
  refine aw_aload_n dX5_readAs_25 0 rfl ?_
  refine aw_getI dX5_readAs_26 fl_X5_64 (hT.s 0 (by decide)) (hT.n 0 (by decide)) ?_
  refine aw_topE hp ?_
  refine aw_callVx [.ref 2, .int (nI p)] [] hti dX5_readAs_29 ml_X5_238 im_X1_takeItem (hT.s 8 (by decide)) (hT.n 8 (by decide)) rfl rfl (dl1 (d := d) (by omega)) rfl rfl (Nat.le_of_ble_eq_true rfl) rfl rfl (Nat.zero_le _) (Nat.zero_le _) (fun r A1 hA => ?_)
  obtain ⟨rfl, hA⟩ := hA
  refine aw_cons ?_
  refine aw_if_ne 49 dX5_readAs_32 (by decide) (fun c3 => ?_) (fun c3 => absurd c3 (by decide))
  refine aw_aload_n dX5_readAs_49 0 rfl ?_
  refine aw_getR (b := 8) dX5_readAs_50 fl_X5_35 rfl ((hP A1 hA).s 0 (by decide)) ((hP A1 hA).n 0 (by decide)) ((hP A1 hA).r 0 4 (by decide) (by decide)) ?_
  refine aw_getR (b := 9) dX5_readAs_53 fl_X5_51 rfl ((hP A1 hA).s 8 (by decide)) ((hP A1 hA).n 8 (by decide)) ((hP A1 hA).r 8 0 (by decide) (by decide)) ?_
  refine aw_iconst (v := 0) dX5_readAs_56 (by decide) ?_
  refine aw_aaldN 0 (10 + 3 * 0) dX5_readAs_57 ((hP A1 hA).s 9 (by decide)) ((hP A1 hA).n 9 (by decide)) rfl (by omega) (by first | decide | omega) ((hP A1 hA).rslot (by omega)) ?_
  refine aw_astore_n [(2, .ref (10 + 3 * 0)), (0, .ref 0), (1, .int (nI b))] dX5_readAs_58 (Nat.le_of_ble_eq_true rfl) rfl ?_
  refine aw_aload_n dX5_readAs_59 0 rfl ?_
  refine aw_callVi [] [] (sp_X2_isArray (d := d - 1) (by omega)  ((hP A1 hA).rrow (t := 0) (by omega))) dX5_readAs_60 ml_X5_251 im_X2_isArray ((hP A1 hA).rrow (t := 0) (by omega)).1 ((hP A1 hA).rrow (t := 0) (by omega)).n0 rfl rfl (dl1 (d := d) (by omega)) rfl rfl (Nat.le_of_ble_eq_true rfl) rfl rfl (Nat.zero_le _) (Nat.zero_le _) ?_
  refine aw_if_ne 74 dX5_readAs_63 (by decide) (fun c4 => ?_) (fun c4 => absurd c4 (bz_n0.mpr (hia A1 hA)))
  refine aw_aload_n dX5_readAs_74 0 rfl ?_
  refine aw_callVi [] [] (hho A1 hA) dX5_readAs_75 ml_X5_254 im_X2_holdsArray ((hP A1 hA).rrow (t := 0) (by omega)).1 ((hP A1 hA).rrow (t := 0) (by omega)).n0 rfl rfl (dl1 (d := d) (by omega)) rfl rfl (Nat.le_of_ble_eq_true rfl) rfl rfl (Nat.zero_le _) (Nat.zero_le _) ?_
  refine aw_if_eq 89 dX5_readAs_78 (by decide) (fun c5 => absurd c5 (by decide)) (fun c5 => ?_)
  refine aw_aload_n dX5_readAs_81 1 rfl ?_
  refine aw_bipush (v := -2) dX5_readAs_82 (by decide) ?_
  refine aw_iconst (v := -1) dX5_readAs_84 (by decide) ?_
  refine aw_callVi [.int (-2), .int (-1)] [] (sp_X5_report (d := d - 1) (by omega) (-2) (-1) (hP A1 hA)) dX5_readAs_85 ml_X5_138 im_X5_report ((hP A1 hA).s 0 (by decide)) ((hP A1 hA).n 0 (by decide)) rfl rfl (dl1 (d := d) (by omega)) rfl rfl (Nat.le_of_ble_eq_true rfl) rfl rfl (Nat.zero_le _) (Nat.zero_le _) ?_
  refine aw_iret dX5_readAs_88 rfl (Nat.zero_le _) (Nat.zero_le _) ?_
  exact ⟨rfl, A1, hA, rfl⟩
theorem sp_X5_readAs_c {d : Nat} (hd : 60 ≤ d) {M : xM} {P : xM → Prop} {p b : Nat} (hT : TC M) (hb : b < 14) (hp : mI M 0 10 = nI p) (hti : Sp (fX1_takeItem (d - 1)) [.ref 8, .ref 2, .int (nI p)] M (fun r A => r = some (.int 1) ∧ P A)) (hP : ∀ A, P A → TC A) {K : xM → xM} {x : Int32} (hia : ∀ A, P A → sX2_isArray A (10 + 3 * 0) = true) (hho : ∀ A, P A → Sp (fX2_holdsArray (d - 1)) [.ref (10 + 3 * 0)] A (dt (some (.int (bz false))) A)) (hkc : ∀ A, P A → Sp (fX5_keepConverted (d - 1)) [.ref 0, .ref (10 + 3 * 0), .int (nI b)] A (dt (some (.int x)) (K A))) (hK : ∀ A, P A → TC (K A)) (hx : x < 0) : Sp (fX5_readAs d) [.ref 0, .int (nI b)] M (fun r B => r = some (.int x) ∧ ∃ A, P A ∧ B = K A) := by
  refine Sp.of pn_X5 (Nat.le_of_ble_eq_true rfl) (fun h => Bool.noConfusion h) ?_
  refine aw_iload_n dX5_readAs_0 1 rfl ?_
  refine aw_if_lt 10 dX5_readAs_1 (by decide) (fun c1 => absurd c1 (nI_nn (by omega))) (fun c1 => ?_)
  refine aw_iload_n dX5_readAs_4 1 rfl ?_
  refine aw_bipush (v := 13) dX5_readAs_5 (by decide) ?_
  refine aw_icmp_leN b 13 17 dX5_readAs_7 (by decide) rfl rfl (by omega) (by omega) (fun c2 => ?_) (fun c2 => absurd (by omega) c2)
  refine aw_aload_n dX5_readAs_17 0 rfl ?_
  refine aw_getR (b := 8) dX5_readAs_18 fl_X5_35 rfl (hT.s 0 (by decide)) (hT.n 0 (by decide)) (hT.r 0 4 (by decide) (by decide)) ?_
  refine aw_aload_n dX5_readAs_21 0 rfl ?_
  refine aw_getR (b := 2) dX5_readAs_22 fl_X5_20 rfl (hT.s 0 (by decide)) (hT.n 0 (by decide)) (hT.r 0 1 (by decide) (by decide)) ?_
  refine aw_aload_n dX5_readAs_25 0 rfl ?_
  refine aw_getI dX5_readAs_26 fl_X5_64 (hT.s 0 (by decide)) (hT.n 0 (by decide)) ?_
  refine aw_topE hp ?_
  refine aw_callVx [.ref 2, .int (nI p)] [] hti dX5_readAs_29 ml_X5_238 im_X1_takeItem (hT.s 8 (by decide)) (hT.n 8 (by decide)) rfl rfl (dl1 (d := d) (by omega)) rfl rfl (Nat.le_of_ble_eq_true rfl) rfl rfl (Nat.zero_le _) (Nat.zero_le _) (fun r A1 hA => ?_)
  obtain ⟨rfl, hA⟩ := hA
  refine aw_cons ?_
  refine aw_if_ne 49 dX5_readAs_32 (by decide) (fun c3 => ?_) (fun c3 => absurd c3 (by decide))
  refine aw_aload_n dX5_readAs_49 0 rfl ?_
  refine aw_getR (b := 8) dX5_readAs_50 fl_X5_35 rfl ((hP A1 hA).s 0 (by decide)) ((hP A1 hA).n 0 (by decide)) ((hP A1 hA).r 0 4 (by decide) (by decide)) ?_
  refine aw_getR (b := 9) dX5_readAs_53 fl_X5_51 rfl ((hP A1 hA).s 8 (by decide)) ((hP A1 hA).n 8 (by decide)) ((hP A1 hA).r 8 0 (by decide) (by decide)) ?_
  refine aw_iconst (v := 0) dX5_readAs_56 (by decide) ?_
  refine aw_aaldN 0 (10 + 3 * 0) dX5_readAs_57 ((hP A1 hA).s 9 (by decide)) ((hP A1 hA).n 9 (by decide)) rfl (by omega) (by first | decide | omega) ((hP A1 hA).rslot (by omega)) ?_
  refine aw_astore_n [(2, .ref (10 + 3 * 0)), (0, .ref 0), (1, .int (nI b))] dX5_readAs_58 (Nat.le_of_ble_eq_true rfl) rfl ?_
  refine aw_aload_n dX5_readAs_59 0 rfl ?_
  refine aw_callVi [] [] (sp_X2_isArray (d := d - 1) (by omega)  ((hP A1 hA).rrow (t := 0) (by omega))) dX5_readAs_60 ml_X5_251 im_X2_isArray ((hP A1 hA).rrow (t := 0) (by omega)).1 ((hP A1 hA).rrow (t := 0) (by omega)).n0 rfl rfl (dl1 (d := d) (by omega)) rfl rfl (Nat.le_of_ble_eq_true rfl) rfl rfl (Nat.zero_le _) (Nat.zero_le _) ?_
  refine aw_if_ne 74 dX5_readAs_63 (by decide) (fun c4 => ?_) (fun c4 => absurd c4 (bz_n0.mpr (hia A1 hA)))
  refine aw_aload_n dX5_readAs_74 0 rfl ?_
  refine aw_callVi [] [] (hho A1 hA) dX5_readAs_75 ml_X5_254 im_X2_holdsArray ((hP A1 hA).rrow (t := 0) (by omega)).1 ((hP A1 hA).rrow (t := 0) (by omega)).n0 rfl rfl (dl1 (d := d) (by omega)) rfl rfl (Nat.le_of_ble_eq_true rfl) rfl rfl (Nat.zero_le _) (Nat.zero_le _) ?_
  refine aw_if_eq 89 dX5_readAs_78 (by decide) (fun c5 => ?_) (fun c5 => absurd rfl c5)
  refine aw_aload_n dX5_readAs_89 1 rfl ?_
  refine aw_aload_n dX5_readAs_90 0 rfl ?_
  refine aw_iload_n dX5_readAs_91 2 rfl ?_
  refine aw_callVi [.ref (10 + 3 * 0), .int (nI b)] [] (hkc A1 hA) dX5_readAs_92 ml_X5_186 im_X5_keepConverted ((hP A1 hA).s 0 (by decide)) ((hP A1 hA).n 0 (by decide)) rfl rfl (dl1 (d := d) (by omega)) rfl rfl (Nat.le_of_ble_eq_true rfl) rfl rfl (Nat.zero_le _) (Nat.zero_le _) ?_
  refine aw_istore_n [(3, .int x), (2, .ref (10 + 3 * 0)), (0, .ref 0), (1, .int (nI b))] dX5_readAs_95 (Nat.le_of_ble_eq_true rfl) rfl ?_
  refine aw_iload_n dX5_readAs_96 0 rfl ?_
  refine aw_if_lt 111 dX5_readAs_97 (by decide) (fun c6 => ?_) (fun c6 => absurd hx c6)
  refine aw_iload_n dX5_readAs_111 0 rfl ?_
  refine aw_iret dX5_readAs_112 rfl (Nat.zero_le _) (Nat.zero_le _) ?_
  exact ⟨rfl, A1, hA, rfl⟩
theorem sp_X5_readAs_k {d : Nat} (hd : 60 ≤ d) {M : xM} {P : xM → Prop} {p b : Nat} (hT : TC M) (hb : b < 14) (hp : mI M 0 10 = nI p) (hti : Sp (fX1_takeItem (d - 1)) [.ref 8, .ref 2, .int (nI p)] M (fun r A => r = some (.int 1) ∧ P A)) (hP : ∀ A, P A → TC A) {K : xM → xM} {f q : Nat} (hia : ∀ A, P A → sX2_isArray A (10 + 3 * 0) = true) (hho : ∀ A, P A → Sp (fX2_holdsArray (d - 1)) [.ref (10 + 3 * 0)] A (dt (some (.int (bz false))) A)) (hkc : ∀ A, P A → Sp (fX5_keepConverted (d - 1)) [.ref 0, .ref (10 + 3 * 0), .int (nI b)] A (dt (some (.int (nI f))) (K A))) (hK : ∀ A, P A → TC (K A) ∧ mI (K A) 8 2 = nI q) (hf : f < 12) : Sp (fX5_readAs d) [.ref 0, .int (nI b)] M (fun r B => r = some (.int (nI f)) ∧ ∃ A, P A ∧ B = stI (K A) 0 10 (nI q)) := by
  refine Sp.of pn_X5 (Nat.le_of_ble_eq_true rfl) (fun h => Bool.noConfusion h) ?_
  refine aw_iload_n dX5_readAs_0 1 rfl ?_
  refine aw_if_lt 10 dX5_readAs_1 (by decide) (fun c1 => absurd c1 (nI_nn (by omega))) (fun c1 => ?_)
  refine aw_iload_n dX5_readAs_4 1 rfl ?_
  refine aw_bipush (v := 13) dX5_readAs_5 (by decide) ?_
  refine aw_icmp_leN b 13 17 dX5_readAs_7 (by decide) rfl rfl (by omega) (by omega) (fun c2 => ?_) (fun c2 => absurd (by omega) c2)
  refine aw_aload_n dX5_readAs_17 0 rfl ?_
  refine aw_getR (b := 8) dX5_readAs_18 fl_X5_35 rfl (hT.s 0 (by decide)) (hT.n 0 (by decide)) (hT.r 0 4 (by decide) (by decide)) ?_
  refine aw_aload_n dX5_readAs_21 0 rfl ?_
  refine aw_getR (b := 2) dX5_readAs_22 fl_X5_20 rfl (hT.s 0 (by decide)) (hT.n 0 (by decide)) (hT.r 0 1 (by decide) (by decide)) ?_
  refine aw_aload_n dX5_readAs_25 0 rfl ?_
  refine aw_getI dX5_readAs_26 fl_X5_64 (hT.s 0 (by decide)) (hT.n 0 (by decide)) ?_
  refine aw_topE hp ?_
  refine aw_callVx [.ref 2, .int (nI p)] [] hti dX5_readAs_29 ml_X5_238 im_X1_takeItem (hT.s 8 (by decide)) (hT.n 8 (by decide)) rfl rfl (dl1 (d := d) (by omega)) rfl rfl (Nat.le_of_ble_eq_true rfl) rfl rfl (Nat.zero_le _) (Nat.zero_le _) (fun r A1 hA => ?_)
  obtain ⟨rfl, hA⟩ := hA
  refine aw_cons ?_
  refine aw_if_ne 49 dX5_readAs_32 (by decide) (fun c3 => ?_) (fun c3 => absurd c3 (by decide))
  refine aw_aload_n dX5_readAs_49 0 rfl ?_
  refine aw_getR (b := 8) dX5_readAs_50 fl_X5_35 rfl ((hP A1 hA).s 0 (by decide)) ((hP A1 hA).n 0 (by decide)) ((hP A1 hA).r 0 4 (by decide) (by decide)) ?_
  refine aw_getR (b := 9) dX5_readAs_53 fl_X5_51 rfl ((hP A1 hA).s 8 (by decide)) ((hP A1 hA).n 8 (by decide)) ((hP A1 hA).r 8 0 (by decide) (by decide)) ?_
  refine aw_iconst (v := 0) dX5_readAs_56 (by decide) ?_
  refine aw_aaldN 0 (10 + 3 * 0) dX5_readAs_57 ((hP A1 hA).s 9 (by decide)) ((hP A1 hA).n 9 (by decide)) rfl (by omega) (by first | decide | omega) ((hP A1 hA).rslot (by omega)) ?_
  refine aw_astore_n [(2, .ref (10 + 3 * 0)), (0, .ref 0), (1, .int (nI b))] dX5_readAs_58 (Nat.le_of_ble_eq_true rfl) rfl ?_
  refine aw_aload_n dX5_readAs_59 0 rfl ?_
  refine aw_callVi [] [] (sp_X2_isArray (d := d - 1) (by omega)  ((hP A1 hA).rrow (t := 0) (by omega))) dX5_readAs_60 ml_X5_251 im_X2_isArray ((hP A1 hA).rrow (t := 0) (by omega)).1 ((hP A1 hA).rrow (t := 0) (by omega)).n0 rfl rfl (dl1 (d := d) (by omega)) rfl rfl (Nat.le_of_ble_eq_true rfl) rfl rfl (Nat.zero_le _) (Nat.zero_le _) ?_
  refine aw_if_ne 74 dX5_readAs_63 (by decide) (fun c4 => ?_) (fun c4 => absurd c4 (bz_n0.mpr (hia A1 hA)))
  refine aw_aload_n dX5_readAs_74 0 rfl ?_
  refine aw_callVi [] [] (hho A1 hA) dX5_readAs_75 ml_X5_254 im_X2_holdsArray ((hP A1 hA).rrow (t := 0) (by omega)).1 ((hP A1 hA).rrow (t := 0) (by omega)).n0 rfl rfl (dl1 (d := d) (by omega)) rfl rfl (Nat.le_of_ble_eq_true rfl) rfl rfl (Nat.zero_le _) (Nat.zero_le _) ?_
  refine aw_if_eq 89 dX5_readAs_78 (by decide) (fun c5 => ?_) (fun c5 => absurd rfl c5)
  refine aw_aload_n dX5_readAs_89 1 rfl ?_
  refine aw_aload_n dX5_readAs_90 0 rfl ?_
  refine aw_iload_n dX5_readAs_91 2 rfl ?_
  refine aw_callVi [.ref (10 + 3 * 0), .int (nI b)] [] (hkc A1 hA) dX5_readAs_92 ml_X5_186 im_X5_keepConverted ((hP A1 hA).s 0 (by decide)) ((hP A1 hA).n 0 (by decide)) rfl rfl (dl1 (d := d) (by omega)) rfl rfl (Nat.le_of_ble_eq_true rfl) rfl rfl (Nat.zero_le _) (Nat.zero_le _) ?_
  refine aw_istore_n [(3, .int (nI f)), (2, .ref (10 + 3 * 0)), (0, .ref 0), (1, .int (nI b))] dX5_readAs_95 (Nat.le_of_ble_eq_true rfl) rfl ?_
  refine aw_iload_n dX5_readAs_96 0 rfl ?_
  refine aw_if_lt 111 dX5_readAs_97 (by decide) (fun c6 => absurd c6 (nI_nn (by omega))) (fun c6 => ?_)
  refine aw_aload_n dX5_readAs_100 2 rfl ?_
  refine aw_aload_n dX5_readAs_101 2 rfl ?_
  refine aw_getR (b := 8) dX5_readAs_102 fl_X5_35 rfl ((hK A1 hA).1.s 0 (by decide)) ((hK A1 hA).1.n 0 (by decide)) ((hK A1 hA).1.r 0 4 (by decide) (by decide)) ?_
  refine aw_getI dX5_readAs_105 fl_X5_245 ((hK A1 hA).1.s 8 (by decide)) ((hK A1 hA).1.n 8 (by decide)) ?_
  refine aw_topE (hK A1 hA).2 ?_
  refine aw_putI dX5_readAs_108 fl_X5_64 (Or.inl rfl) ((hK A1 hA).1.s 0 (by decide)) ((hK A1 hA).1.n 0 (by decide)) ?_
  refine aw_iload_n dX5_readAs_111 0 rfl ?_
  refine aw_iret dX5_readAs_112 rfl (Nat.zero_le _) (Nat.zero_le _) ?_
  exact ⟨rfl, A1, hA, rfl⟩
theorem sp_X6_readAs_b {d : Nat} (hd : 60 ≤ d) {M : xM} (x1 : Int32) (hT : TR M) (hb : sX6_isIn x1.toInt64 0 13 = false) : Sp (fX6_readAs d) [.ref 0, .int x1] M (dt (some (.int (-1))) (tX6_tells M (-1) (-1))) := by
  refine Sp.of pn_X6 (Nat.le_of_ble_eq_true rfl) (fun h => Bool.noConfusion h) ?_
  refine aw_iload_n dX6_readAs_0 1 rfl ?_
  refine aw_i2l dX6_readAs_1 ?_
  refine aw_lconst (v := 0) dX6_readAs_2 (by decide) ?_
  refine aw_ldc2 dX6_readAs_3 kc_X6_141 ?_
  refine aw_callSi [.long (Int32.toInt64 x1), .long 0, .long 13] [] (sp_X6_isIn (d := d - 1) (by omega) (Int32.toInt64 x1) 0 13 ) dX6_readAs_6 ml_X6_73 sm_X6_isIn rfl (dl1 (d := d) (by omega)) rfl rfl (Nat.le_of_ble_eq_true rfl) rfl rfl (Nat.zero_le _) (Nat.zero_le _) ?_
  refine aw_if_ne 19 dX6_readAs_9 (by decide) (fun c1 => absurd (bz_0.mpr hb) c1) (fun c1 => ?_)
  refine aw_aload_n dX6_readAs_12 0 rfl ?_
  refine aw_iconst (v := -1) dX6_readAs_13 (by decide) ?_
  refine aw_iconst (v := -1) dX6_readAs_14 (by decide) ?_
  refine aw_callVi [.int (-1), .int (-1)] [] (sp_X6_tells (d := d - 1) (by omega) (-1) (-1) hT) dX6_readAs_15 ml_X6_192 im_X6_tells (hT.s 0 (by decide)) (hT.n 0 (by decide)) rfl rfl (dl1 (d := d) (by omega)) rfl rfl (Nat.le_of_ble_eq_true rfl) rfl rfl (Nat.zero_le _) (Nat.zero_le _) ?_
  refine aw_iret dX6_readAs_18 rfl (Nat.zero_le _) (Nat.zero_le _) ?_
  exact ⟨rfl, rfl⟩
theorem sp_X6_readAs_f {d : Nat} (hd : 60 ≤ d) {M : xM} {P : xM → Prop} {p L f : Nat} (hT : TR M) (hl : mI M 0 6 = nI L) (bl : L ≤ 200) (hp : mI M 0 7 = nI p) {b : Nat} (hb2 : b < 14) (hb : sX6_isIn (lN b) 0 13 = true) (hri : Sp (fX6_readsItem (d - 1)) [.ref 0, .int (nI p)] (ftM M L) (fun r C => (∃ y, r = some (.int y)) ∧ P C)) (hf : f < 2 ^ 31) (hP : ∀ C, P C → TR C ∧ mI C 0 25 = nI f) : Sp (fX6_readAs d) [.ref 0, .int (nI b)] M (fun r B => r = some (.int (-10)) ∧ ∃ C, P C ∧ B = tX6_tells C (-10) (nI f)) := by
  refine Sp.of pn_X6 (Nat.le_of_ble_eq_true rfl) (fun h => Bool.noConfusion h) ?_
  refine aw_iload_n dX6_readAs_0 1 rfl ?_
  refine aw_i2lN b dX6_readAs_1 rfl (by omega) ?_
  refine aw_lconst (v := 0) dX6_readAs_2 (by decide) ?_
  refine aw_ldc2 dX6_readAs_3 kc_X6_141 ?_
  refine aw_callSi [.long (lN b), .long 0, .long 13] [] (sp_X6_isIn (d := d - 1) (by omega) (lN b) 0 13 ) dX6_readAs_6 ml_X6_73 sm_X6_isIn rfl (dl1 (d := d) (by omega)) rfl rfl (Nat.le_of_ble_eq_true rfl) rfl rfl (Nat.zero_le _) (Nat.zero_le _) ?_
  refine aw_if_ne 19 dX6_readAs_9 (by decide) (fun c1 => ?_) (fun c1 => absurd c1 (bz_n0.mpr hb))
  refine aw_aload_n dX6_readAs_19 0 rfl ?_
  refine aw_callVv [] [] (sp_ft (d := d - 1) hT hl bl) dX6_readAs_20 ml_X6_369 im_X6_fromTape (hT.s 0 (by decide)) (hT.n 0 (by decide)) rfl rfl (dl1 (d := d) (by omega)) rfl rfl (Nat.le_of_ble_eq_true rfl) rfl rfl (Nat.zero_le _) (Nat.zero_le _) ?_
  refine aw_aload_n dX6_readAs_23 0 rfl ?_
  refine aw_aload_n dX6_readAs_24 0 rfl ?_
  refine aw_getI dX6_readAs_25 fl_X6_366 (((sT_ftM M L).TR hT).s 0 (by decide)) (((sT_ftM M L).TR hT).n 0 (by decide)) ?_
  refine aw_topE ((ftM_0 M L (by decide)).trans hp) ?_
  refine aw_callVx [.int (nI p)] [] hri dX6_readAs_28 ml_X6_372 im_X6_readsItem (((sT_ftM M L).TR hT).s 0 (by decide)) (((sT_ftM M L).TR hT).n 0 (by decide)) rfl rfl (dl1 (d := d) (by omega)) rfl rfl (Nat.le_of_ble_eq_true rfl) rfl rfl (Nat.zero_le _) (Nat.zero_le _) (fun r C1 hC => ?_)
  obtain ⟨⟨y, rfl⟩, hC⟩ := hC
  refine aw_cons ?_
  refine aw_istore_n [(2, .int y), (0, .ref 0), (1, .int (nI b))] dX6_readAs_31 (Nat.le_of_ble_eq_true rfl) rfl ?_
  refine aw_aload_n dX6_readAs_32 1 rfl ?_
  refine aw_getI dX6_readAs_33 fl_X6_283 ((hP C1 hC).1.s 0 (by decide)) ((hP C1 hC).1.n 0 (by decide)) ?_
  refine aw_topE (hP C1 hC).2 ?_
  refine aw_if_lt 50 dX6_readAs_36 (by decide) (fun c2 => absurd c2 (nI_nn (by omega))) (fun c2 => ?_)
  refine aw_aload_n dX6_readAs_39 1 rfl ?_
  refine aw_bipush (v := -10) dX6_readAs_40 (by decide) ?_
  refine aw_aload_n dX6_readAs_42 1 rfl ?_
  refine aw_getI dX6_readAs_43 fl_X6_283 ((hP C1 hC).1.s 0 (by decide)) ((hP C1 hC).1.n 0 (by decide)) ?_
  refine aw_topE (hP C1 hC).2 ?_
  refine aw_callVi [.int (-10), .int (nI f)] [] (sp_X6_tells (d := d - 1) (by omega) (-10) (nI f) (hP C1 hC).1) dX6_readAs_46 ml_X6_192 im_X6_tells ((hP C1 hC).1.s 0 (by decide)) ((hP C1 hC).1.n 0 (by decide)) rfl rfl (dl1 (d := d) (by omega)) rfl rfl (Nat.le_of_ble_eq_true rfl) rfl rfl (Nat.zero_le _) (Nat.zero_le _) ?_
  refine aw_iret dX6_readAs_49 rfl (Nat.zero_le _) (Nat.zero_le _) ?_
  exact ⟨rfl, C1, hC, rfl⟩
theorem ra_all {d : Nat} {C : xM} {z b : Nat} {e : Int32} {W : Nat → Nat} (hT : TR C) (hz : mI C 2 12 = nI z) (hz2 : z ≤ 12) (hW : ∀ k, k < z → mI C 4 (144 + k) = nI (W k)) (hw : ∀ k, k < z → W k < 12) {post : Option Value → xM → Prop} (k : AW (fX6_readAs d) 112 [(3, .int (nI z)), (2, .int e), (0, .ref 0), (1, .int (nI b))] [] C 0 0 post) : ∀ n i, i + n = z → (∀ k, i ≤ k → k < z → ¬ W k = 10) → AW (fX6_readAs d) 72 [(3, .int (nI i)), (2, .int e), (0, .ref 0), (1, .int (nI b))] [] C 0 0 post := by
  intro n
  induction n with
  | zero =>
    intro i hi hn
    obtain rfl : i = z := by omega
    refine aw_iload_n dX6_readAs_72 0 rfl ?_
    refine aw_aload_n dX6_readAs_73 2 rfl ?_
    refine aw_getR (b := 2) dX6_readAs_74 fl_X6_13 rfl (hT.s 0 (by decide)) (hT.n 0 (by decide)) (hT.r 1) ?_
    refine aw_bipush (v := 12) dX6_readAs_77 (by decide) ?_
    refine aw_ialdN 12 dX6_readAs_79 (hT.s 2 (by decide)) (hT.n 2 (by decide)) rfl (by omega) (by first | decide | omega) ?_
    refine aw_topE hz ?_
    refine aw_icmp_geN i i 112 dX6_readAs_80 (by decide) rfl rfl (by omega) (by omega) (fun c1 => ?_) (fun c1 => absurd (by omega) c1)
    exact k
  | succ n ih =>
    intro i hi hn
    have hi10 := hn i (Nat.le_refl _) (by omega)
    have hwi := hw i (by omega)
    refine aw_iload_n dX6_readAs_72 0 rfl ?_
    refine aw_aload_n dX6_readAs_73 2 rfl ?_
    refine aw_getR (b := 2) dX6_readAs_74 fl_X6_13 rfl (hT.s 0 (by decide)) (hT.n 0 (by decide)) (hT.r 1) ?_
    refine aw_bipush (v := 12) dX6_readAs_77 (by decide) ?_
    refine aw_ialdN 12 dX6_readAs_79 (hT.s 2 (by decide)) (hT.n 2 (by decide)) rfl (by omega) (by first | decide | omega) ?_
    refine aw_topE hz ?_
    refine aw_icmp_geN i z 112 dX6_readAs_80 (by decide) rfl rfl (by omega) (by omega) (fun c1 => absurd c1 (by omega)) (fun c1 => ?_)
    refine aw_aload_n dX6_readAs_83 2 rfl ?_
    refine aw_getR (b := 4) dX6_readAs_84 fl_X6_20 rfl (hT.s 0 (by decide)) (hT.n 0 (by decide)) (hT.r 3) ?_
    refine aw_sipush (v := 144) dX6_readAs_87 (by decide) ?_
    refine aw_iload_n dX6_readAs_90 0 rfl ?_
    refine aw_iaddN 144 i dX6_readAs_91 rfl rfl ?_
    refine aw_ialdN (144 + i) dX6_readAs_92 (hT.s 4 (by decide)) (hT.n 4 (by decide)) rfl (by omega) (by first | decide | omega) ?_
    refine aw_topE (hW i (by omega)) ?_
    refine aw_bipush (v := 10) dX6_readAs_93 (by decide) ?_
    refine aw_icmp_neN (W i) 10 106 dX6_readAs_95 (by decide) rfl rfl (by omega) (by omega) (fun c2 => ?_) (fun c2 => absurd c2 hi10)
    refine aw_iincN i 1 [(3, .int (nI (i + 1))), (2, .int e), (0, .ref 0), (1, .int (nI b))] dX6_readAs_106 0 rfl rfl rfl (Nat.le_of_ble_eq_true rfl) rfl ?_
    refine aw_goto 72 dX6_readAs_109 (by decide) ?_
    exact ih (i + 1) (by omega) (fun k h1 h2 => hn k (by omega) h2)
theorem ra_one {d : Nat} (hd : 60 ≤ d) {C : xM} {z b : Nat} {e : Int32} {W : Nat → Nat} (hT : TR C) (hz : mI C 2 12 = nI z) (hz2 : z ≤ 12) (hW : ∀ k, k < z → mI C 4 (144 + k) = nI (W k)) (hw : ∀ k, k < z → W k < 12)  {m : Nat} (hm : m < z) (h10 : W m = 10) : ∀ n i, i + n = m → (∀ k, i ≤ k → k < m → ¬ W k = 10) → AW (fX6_readAs d) 72 [(3, .int (nI i)), (2, .int e), (0, .ref 0), (1, .int (nI b))] [] C 0 0 (dt (some (.int (-2))) (tX6_tells C (-2) (-1))) := by
  intro n
  induction n with
  | zero =>
    intro i hi hn
    obtain rfl : i = m := by omega
    refine aw_iload_n dX6_readAs_72 0 rfl ?_
    refine aw_aload_n dX6_readAs_73 2 rfl ?_
    refine aw_getR (b := 2) dX6_readAs_74 fl_X6_13 rfl (hT.s 0 (by decide)) (hT.n 0 (by decide)) (hT.r 1) ?_
    refine aw_bipush (v := 12) dX6_readAs_77 (by decide) ?_
    refine aw_ialdN 12 dX6_readAs_79 (hT.s 2 (by decide)) (hT.n 2 (by decide)) rfl (by omega) (by first | decide | omega) ?_
    refine aw_topE hz ?_
    refine aw_icmp_geN i z 112 dX6_readAs_80 (by decide) rfl rfl (by omega) (by omega) (fun c1 => absurd c1 (by omega)) (fun c1 => ?_)
    refine aw_aload_n dX6_readAs_83 2 rfl ?_
    refine aw_getR (b := 4) dX6_readAs_84 fl_X6_20 rfl (hT.s 0 (by decide)) (hT.n 0 (by decide)) (hT.r 3) ?_
    refine aw_sipush (v := 144) dX6_readAs_87 (by decide) ?_
    refine aw_iload_n dX6_readAs_90 0 rfl ?_
    refine aw_iaddN 144 i dX6_readAs_91 rfl rfl ?_
    refine aw_ialdN (144 + i) dX6_readAs_92 (hT.s 4 (by decide)) (hT.n 4 (by decide)) rfl (by omega) (by first | decide | omega) ?_
    refine aw_topE (hW i (by omega)) ?_
    refine aw_bipush (v := 10) dX6_readAs_93 (by decide) ?_
    refine aw_icmp_neN (W i) 10 106 dX6_readAs_95 (by decide) rfl rfl (by omega) (by omega) (fun c2 => absurd h10 c2) (fun c2 => ?_)
    refine aw_aload_n dX6_readAs_98 2 rfl ?_
    refine aw_bipush (v := -2) dX6_readAs_99 (by decide) ?_
    refine aw_iconst (v := -1) dX6_readAs_101 (by decide) ?_
    refine aw_callVi [.int (-2), .int (-1)] [] (sp_X6_tells (d := d - 1) (by omega) (-2) (-1) hT) dX6_readAs_102 ml_X6_192 im_X6_tells (hT.s 0 (by decide)) (hT.n 0 (by decide)) rfl rfl (dl1 (d := d) (by omega)) rfl rfl (Nat.le_of_ble_eq_true rfl) rfl rfl (Nat.zero_le _) (Nat.zero_le _) ?_
    refine aw_iret dX6_readAs_105 rfl (Nat.zero_le _) (Nat.zero_le _) ?_
    exact ⟨rfl, rfl⟩
  | succ n ih =>
    intro i hi hn
    have hi10 := hn i (Nat.le_refl _) (by omega)
    have hwi := hw i (by omega)
    refine aw_iload_n dX6_readAs_72 0 rfl ?_
    refine aw_aload_n dX6_readAs_73 2 rfl ?_
    refine aw_getR (b := 2) dX6_readAs_74 fl_X6_13 rfl (hT.s 0 (by decide)) (hT.n 0 (by decide)) (hT.r 1) ?_
    refine aw_bipush (v := 12) dX6_readAs_77 (by decide) ?_
    refine aw_ialdN 12 dX6_readAs_79 (hT.s 2 (by decide)) (hT.n 2 (by decide)) rfl (by omega) (by first | decide | omega) ?_
    refine aw_topE hz ?_
    refine aw_icmp_geN i z 112 dX6_readAs_80 (by decide) rfl rfl (by omega) (by omega) (fun c1 => absurd c1 (by omega)) (fun c1 => ?_)
    refine aw_aload_n dX6_readAs_83 2 rfl ?_
    refine aw_getR (b := 4) dX6_readAs_84 fl_X6_20 rfl (hT.s 0 (by decide)) (hT.n 0 (by decide)) (hT.r 3) ?_
    refine aw_sipush (v := 144) dX6_readAs_87 (by decide) ?_
    refine aw_iload_n dX6_readAs_90 0 rfl ?_
    refine aw_iaddN 144 i dX6_readAs_91 rfl rfl ?_
    refine aw_ialdN (144 + i) dX6_readAs_92 (hT.s 4 (by decide)) (hT.n 4 (by decide)) rfl (by omega) (by first | decide | omega) ?_
    refine aw_topE (hW i (by omega)) ?_
    refine aw_bipush (v := 10) dX6_readAs_93 (by decide) ?_
    refine aw_icmp_neN (W i) 10 106 dX6_readAs_95 (by decide) rfl rfl (by omega) (by omega) (fun c2 => ?_) (fun c2 => absurd c2 hi10)
    refine aw_iincN i 1 [(3, .int (nI (i + 1))), (2, .int e), (0, .ref 0), (1, .int (nI b))] dX6_readAs_106 0 rfl rfl rfl (Nat.le_of_ble_eq_true rfl) rfl ?_
    refine aw_goto 72 dX6_readAs_109 (by decide) ?_
    exact ih (i + 1) (by omega) (fun k h1 h2 => hn k (by omega) h2)
theorem sp_X6_readAs_n {d : Nat} (hd : 60 ≤ d) {M : xM} {P : xM → Prop} {p L b q k : Nat} (hT : TR M) (hl : mI M 0 6 = nI L) (bl : L ≤ 200) (hp : mI M 0 7 = nI p) (hb2 : b < 14) (hb : sX6_isIn (lN b) 0 13 = true) (hri : Sp (fX6_readsItem (d - 1)) [.ref 0, .int (nI p)] (ftM M L) (fun r C => r = some (.int (nI q)) ∧ P C)) (hP : ∀ C, P C → TR C ∧ mI C 0 25 = -1 ∧ mI C 1 12 = nI k) (hk16 : k < 16) (hk : ¬ k ≤ 13) : Sp (fX6_readAs d) [.ref 0, .int (nI b)] M (fun r B => r = some (.int (-6)) ∧ ∃ C, P C ∧ B = tX6_tells C (-6) (-1)) := by
  refine Sp.of pn_X6 (Nat.le_of_ble_eq_true rfl) (fun h => Bool.noConfusion h) ?_
  refine aw_iload_n dX6_readAs_0 1 rfl ?_
  refine aw_i2lN b dX6_readAs_1 rfl (by omega) ?_
  refine aw_lconst (v := 0) dX6_readAs_2 (by decide) ?_
  refine aw_ldc2 dX6_readAs_3 kc_X6_141 ?_
  refine aw_callSi [.long (lN b), .long 0, .long 13] [] (sp_X6_isIn (d := d - 1) (by omega) (lN b) 0 13 ) dX6_readAs_6 ml_X6_73 sm_X6_isIn rfl (dl1 (d := d) (by omega)) rfl rfl (Nat.le_of_ble_eq_true rfl) rfl rfl (Nat.zero_le _) (Nat.zero_le _) ?_
  refine aw_if_ne 19 dX6_readAs_9 (by decide) (fun c1 => ?_) (fun c1 => absurd c1 (bz_n0.mpr hb))
  refine aw_aload_n dX6_readAs_19 0 rfl ?_
  refine aw_callVv [] [] (sp_ft (d := d - 1) hT hl bl) dX6_readAs_20 ml_X6_369 im_X6_fromTape (hT.s 0 (by decide)) (hT.n 0 (by decide)) rfl rfl (dl1 (d := d) (by omega)) rfl rfl (Nat.le_of_ble_eq_true rfl) rfl rfl (Nat.zero_le _) (Nat.zero_le _) ?_
  refine aw_aload_n dX6_readAs_23 0 rfl ?_
  refine aw_aload_n dX6_readAs_24 0 rfl ?_
  refine aw_getI dX6_readAs_25 fl_X6_366 (((sT_ftM M L).TR hT).s 0 (by decide)) (((sT_ftM M L).TR hT).n 0 (by decide)) ?_
  refine aw_topE ((ftM_0 M L (by decide)).trans hp) ?_
  refine aw_callVx [.int (nI p)] [] hri dX6_readAs_28 ml_X6_372 im_X6_readsItem (((sT_ftM M L).TR hT).s 0 (by decide)) (((sT_ftM M L).TR hT).n 0 (by decide)) rfl rfl (dl1 (d := d) (by omega)) rfl rfl (Nat.le_of_ble_eq_true rfl) rfl rfl (Nat.zero_le _) (Nat.zero_le _) (fun r C1 hC => ?_)
  obtain ⟨rfl, hC⟩ := hC
  refine aw_cons ?_
  refine aw_istore_n [(2, .int (nI q)), (0, .ref 0), (1, .int (nI b))] dX6_readAs_31 (Nat.le_of_ble_eq_true rfl) rfl ?_
  refine aw_aload_n dX6_readAs_32 1 rfl ?_
  refine aw_getI dX6_readAs_33 fl_X6_283 ((hP C1 hC).1.s 0 (by decide)) ((hP C1 hC).1.n 0 (by decide)) ?_
  refine aw_topE (hP C1 hC).2.1 ?_
  refine aw_if_lt 50 dX6_readAs_36 (by decide) (fun c2 => ?_) (fun c2 => absurd (by decide) c2)
  refine aw_aload_n dX6_readAs_50 1 rfl ?_
  refine aw_getR (b := 1) dX6_readAs_51 fl_X6_7 rfl ((hP C1 hC).1.s 0 (by decide)) ((hP C1 hC).1.n 0 (by decide)) ((hP C1 hC).1.r 0) ?_
  refine aw_bipush (v := 12) dX6_readAs_54 (by decide) ?_
  refine aw_ialdN 12 dX6_readAs_56 ((hP C1 hC).1.s 1 (by decide)) ((hP C1 hC).1.n 1 (by decide)) rfl (by omega) (by first | decide | omega) ?_
  refine aw_topE (hP C1 hC).2.2 ?_
  refine aw_bipush (v := 13) dX6_readAs_57 (by decide) ?_
  refine aw_icmp_leN k 13 70 dX6_readAs_59 (by decide) rfl rfl (by omega) (by omega) (fun c3 => absurd c3 (by omega)) (fun c3 => ?_)
  refine aw_aload_n dX6_readAs_62 1 rfl ?_
  refine aw_bipush (v := -6) dX6_readAs_63 (by decide) ?_
  refine aw_iconst (v := -1) dX6_readAs_65 (by decide) ?_
  refine aw_callVi [.int (-6), .int (-1)] [] (sp_X6_tells (d := d - 1) (by omega) (-6) (-1) (hP C1 hC).1) dX6_readAs_66 ml_X6_192 im_X6_tells ((hP C1 hC).1.s 0 (by decide)) ((hP C1 hC).1.n 0 (by decide)) rfl rfl (dl1 (d := d) (by omega)) rfl rfl (Nat.le_of_ble_eq_true rfl) rfl rfl (Nat.zero_le _) (Nat.zero_le _) ?_
  refine aw_iret dX6_readAs_69 rfl (Nat.zero_le _) (Nat.zero_le _) ?_
  exact ⟨rfl, C1, hC, rfl⟩
theorem sp_X6_readAs_a {d : Nat} (hd : 60 ≤ d) {M : xM} {P : xM → Prop} {p L b q k : Nat} (hT : TR M) (hl : mI M 0 6 = nI L) (bl : L ≤ 200) (hp : mI M 0 7 = nI p) (hb2 : b < 14) (hb : sX6_isIn (lN b) 0 13 = true) (hri : Sp (fX6_readsItem (d - 1)) [.ref 0, .int (nI p)] (ftM M L) (fun r C => r = some (.int (nI q)) ∧ P C)) (hP : ∀ C, P C → TR C ∧ mI C 0 25 = -1 ∧ mI C 1 12 = nI k) (hk16 : k < 16) (hk : k ≤ 13) {z : Nat} {W : Nat → Nat} (hz : ∀ C, P C → mI C 2 12 = nI z) (hz2 : z ≤ 12) (hW : ∀ C, P C → ∀ k, k < z → mI C 4 (144 + k) = nI (W k)) (hw : ∀ k, k < z → W k < 12) {m : Nat} (hm : m < z) (h10 : W m = 10) (hn : ∀ k, k < m → ¬ W k = 10) : Sp (fX6_readAs d) [.ref 0, .int (nI b)] M (fun r B => r = some (.int (-2)) ∧ ∃ C, P C ∧ B = tX6_tells C (-2) (-1)) := by
  refine Sp.of pn_X6 (Nat.le_of_ble_eq_true rfl) (fun h => Bool.noConfusion h) ?_
  refine aw_iload_n dX6_readAs_0 1 rfl ?_
  refine aw_i2lN b dX6_readAs_1 rfl (by omega) ?_
  refine aw_lconst (v := 0) dX6_readAs_2 (by decide) ?_
  refine aw_ldc2 dX6_readAs_3 kc_X6_141 ?_
  refine aw_callSi [.long (lN b), .long 0, .long 13] [] (sp_X6_isIn (d := d - 1) (by omega) (lN b) 0 13 ) dX6_readAs_6 ml_X6_73 sm_X6_isIn rfl (dl1 (d := d) (by omega)) rfl rfl (Nat.le_of_ble_eq_true rfl) rfl rfl (Nat.zero_le _) (Nat.zero_le _) ?_
  refine aw_if_ne 19 dX6_readAs_9 (by decide) (fun c1 => ?_) (fun c1 => absurd c1 (bz_n0.mpr hb))
  refine aw_aload_n dX6_readAs_19 0 rfl ?_
  refine aw_callVv [] [] (sp_ft (d := d - 1) hT hl bl) dX6_readAs_20 ml_X6_369 im_X6_fromTape (hT.s 0 (by decide)) (hT.n 0 (by decide)) rfl rfl (dl1 (d := d) (by omega)) rfl rfl (Nat.le_of_ble_eq_true rfl) rfl rfl (Nat.zero_le _) (Nat.zero_le _) ?_
  refine aw_aload_n dX6_readAs_23 0 rfl ?_
  refine aw_aload_n dX6_readAs_24 0 rfl ?_
  refine aw_getI dX6_readAs_25 fl_X6_366 (((sT_ftM M L).TR hT).s 0 (by decide)) (((sT_ftM M L).TR hT).n 0 (by decide)) ?_
  refine aw_topE ((ftM_0 M L (by decide)).trans hp) ?_
  refine aw_callVx [.int (nI p)] [] hri dX6_readAs_28 ml_X6_372 im_X6_readsItem (((sT_ftM M L).TR hT).s 0 (by decide)) (((sT_ftM M L).TR hT).n 0 (by decide)) rfl rfl (dl1 (d := d) (by omega)) rfl rfl (Nat.le_of_ble_eq_true rfl) rfl rfl (Nat.zero_le _) (Nat.zero_le _) (fun r C1 hC => ?_)
  obtain ⟨rfl, hC⟩ := hC
  refine aw_cons ?_
  refine aw_istore_n [(2, .int (nI q)), (0, .ref 0), (1, .int (nI b))] dX6_readAs_31 (Nat.le_of_ble_eq_true rfl) rfl ?_
  refine aw_aload_n dX6_readAs_32 1 rfl ?_
  refine aw_getI dX6_readAs_33 fl_X6_283 ((hP C1 hC).1.s 0 (by decide)) ((hP C1 hC).1.n 0 (by decide)) ?_
  refine aw_topE (hP C1 hC).2.1 ?_
  refine aw_if_lt 50 dX6_readAs_36 (by decide) (fun c2 => ?_) (fun c2 => absurd (by decide) c2)
  refine aw_aload_n dX6_readAs_50 1 rfl ?_
  refine aw_getR (b := 1) dX6_readAs_51 fl_X6_7 rfl ((hP C1 hC).1.s 0 (by decide)) ((hP C1 hC).1.n 0 (by decide)) ((hP C1 hC).1.r 0) ?_
  refine aw_bipush (v := 12) dX6_readAs_54 (by decide) ?_
  refine aw_ialdN 12 dX6_readAs_56 ((hP C1 hC).1.s 1 (by decide)) ((hP C1 hC).1.n 1 (by decide)) rfl (by omega) (by first | decide | omega) ?_
  refine aw_topE (hP C1 hC).2.2 ?_
  refine aw_bipush (v := 13) dX6_readAs_57 (by decide) ?_
  refine aw_icmp_leN k 13 70 dX6_readAs_59 (by decide) rfl rfl (by omega) (by omega) (fun c3 => ?_) (fun c3 => absurd (by omega) c3)
  refine aw_iconst (v := 0) dX6_readAs_70 (by decide) ?_
  refine aw_istore_n [(3, .int 0), (2, .int (nI q)), (0, .ref 0), (1, .int (nI b))] dX6_readAs_71 (Nat.le_of_ble_eq_true rfl) rfl ?_
  exact aw_post (fun r B h => ⟨h.1, C1, hC, h.2⟩) (ra_one hd (hP C1 hC).1 (hz C1 hC) hz2 (hW C1 hC) hw hm h10 m 0 (by omega) (fun k _ h => hn k h))
theorem sp_X6_readAs_r {d : Nat} (hd : 60 ≤ d) {M : xM} {P : xM → Prop} {p L b q k : Nat} (hT : TR M) (hl : mI M 0 6 = nI L) (bl : L ≤ 200) (hp : mI M 0 7 = nI p) (hb2 : b < 14) (hb : sX6_isIn (lN b) 0 13 = true) (hri : Sp (fX6_readsItem (d - 1)) [.ref 0, .int (nI p)] (ftM M L) (fun r C => r = some (.int (nI q)) ∧ P C)) (hP : ∀ C, P C → TR C ∧ mI C 0 25 = -1 ∧ mI C 1 12 = nI k) (hk16 : k < 16) (hk : k ≤ 13) {z : Nat} {W : Nat → Nat} (hz : ∀ C, P C → mI C 2 12 = nI z) (hz2 : z ≤ 12) (hW : ∀ C, P C → ∀ k, k < z → mI C 4 (144 + k) = nI (W k)) (hw : ∀ k, k < z → W k < 12) (hno : ∀ k, k < z → ¬ W k = 10) {m : Nat} (hm : m < 12) (hfr : ∀ C, P C → Sp (fX6_firstRefused (d - 1)) [.ref 0, .int 12, .int (nI b)] C (fun r D => r = some (.int (nI m)) ∧ ∃ x y, D = tkM C x y))  : Sp (fX6_readAs d) [.ref 0, .int (nI b)] M (fun r B => r = some (.int (-9)) ∧ ∃ C, P C ∧ ∃ x y, B = tX6_tells (tkM C x y) (-9) (nI m)) := by
  refine Sp.of pn_X6 (Nat.le_of_ble_eq_true rfl) (fun h => Bool.noConfusion h) ?_
  refine aw_iload_n dX6_readAs_0 1 rfl ?_
  refine aw_i2lN b dX6_readAs_1 rfl (by omega) ?_
  refine aw_lconst (v := 0) dX6_readAs_2 (by decide) ?_
  refine aw_ldc2 dX6_readAs_3 kc_X6_141 ?_
  refine aw_callSi [.long (lN b), .long 0, .long 13] [] (sp_X6_isIn (d := d - 1) (by omega) (lN b) 0 13 ) dX6_readAs_6 ml_X6_73 sm_X6_isIn rfl (dl1 (d := d) (by omega)) rfl rfl (Nat.le_of_ble_eq_true rfl) rfl rfl (Nat.zero_le _) (Nat.zero_le _) ?_
  refine aw_if_ne 19 dX6_readAs_9 (by decide) (fun c1 => ?_) (fun c1 => absurd c1 (bz_n0.mpr hb))
  refine aw_aload_n dX6_readAs_19 0 rfl ?_
  refine aw_callVv [] [] (sp_ft (d := d - 1) hT hl bl) dX6_readAs_20 ml_X6_369 im_X6_fromTape (hT.s 0 (by decide)) (hT.n 0 (by decide)) rfl rfl (dl1 (d := d) (by omega)) rfl rfl (Nat.le_of_ble_eq_true rfl) rfl rfl (Nat.zero_le _) (Nat.zero_le _) ?_
  refine aw_aload_n dX6_readAs_23 0 rfl ?_
  refine aw_aload_n dX6_readAs_24 0 rfl ?_
  refine aw_getI dX6_readAs_25 fl_X6_366 (((sT_ftM M L).TR hT).s 0 (by decide)) (((sT_ftM M L).TR hT).n 0 (by decide)) ?_
  refine aw_topE ((ftM_0 M L (by decide)).trans hp) ?_
  refine aw_callVx [.int (nI p)] [] hri dX6_readAs_28 ml_X6_372 im_X6_readsItem (((sT_ftM M L).TR hT).s 0 (by decide)) (((sT_ftM M L).TR hT).n 0 (by decide)) rfl rfl (dl1 (d := d) (by omega)) rfl rfl (Nat.le_of_ble_eq_true rfl) rfl rfl (Nat.zero_le _) (Nat.zero_le _) (fun r C1 hC => ?_)
  obtain ⟨rfl, hC⟩ := hC
  refine aw_cons ?_
  refine aw_istore_n [(2, .int (nI q)), (0, .ref 0), (1, .int (nI b))] dX6_readAs_31 (Nat.le_of_ble_eq_true rfl) rfl ?_
  refine aw_aload_n dX6_readAs_32 1 rfl ?_
  refine aw_getI dX6_readAs_33 fl_X6_283 ((hP C1 hC).1.s 0 (by decide)) ((hP C1 hC).1.n 0 (by decide)) ?_
  refine aw_topE (hP C1 hC).2.1 ?_
  refine aw_if_lt 50 dX6_readAs_36 (by decide) (fun c2 => ?_) (fun c2 => absurd (by decide) c2)
  refine aw_aload_n dX6_readAs_50 1 rfl ?_
  refine aw_getR (b := 1) dX6_readAs_51 fl_X6_7 rfl ((hP C1 hC).1.s 0 (by decide)) ((hP C1 hC).1.n 0 (by decide)) ((hP C1 hC).1.r 0) ?_
  refine aw_bipush (v := 12) dX6_readAs_54 (by decide) ?_
  refine aw_ialdN 12 dX6_readAs_56 ((hP C1 hC).1.s 1 (by decide)) ((hP C1 hC).1.n 1 (by decide)) rfl (by omega) (by first | decide | omega) ?_
  refine aw_topE (hP C1 hC).2.2 ?_
  refine aw_bipush (v := 13) dX6_readAs_57 (by decide) ?_
  refine aw_icmp_leN k 13 70 dX6_readAs_59 (by decide) rfl rfl (by omega) (by omega) (fun c3 => ?_) (fun c3 => absurd (by omega) c3)
  refine aw_iconst (v := 0) dX6_readAs_70 (by decide) ?_
  refine aw_istore_n [(3, .int 0), (2, .int (nI q)), (0, .ref 0), (1, .int (nI b))] dX6_readAs_71 (Nat.le_of_ble_eq_true rfl) rfl ?_
  refine ra_all (hP C1 hC).1 (hz C1 hC) hz2 (hW C1 hC) hw ?_ z 0 (by omega) (fun k _ h => hno k h)
  refine aw_aload_n dX6_readAs_112 2 rfl ?_
  refine aw_bipush (v := 12) dX6_readAs_113 (by decide) ?_
  refine aw_iload_n dX6_readAs_115 3 rfl ?_
  refine aw_callVx [.int 12, .int (nI b)] [] (hfr C1 hC) dX6_readAs_116 ml_X6_220 im_X6_firstRefused ((hP C1 hC).1.s 0 (by decide)) ((hP C1 hC).1.n 0 (by decide)) rfl rfl (dl1 (d := d) (by omega)) rfl rfl (Nat.le_of_ble_eq_true rfl) rfl rfl (Nat.zero_le _) (Nat.zero_le _) (fun r D1 hD => ?_)
  obtain ⟨rfl, x, y, rfl⟩ := hD
  refine aw_cons ?_
  refine aw_istore_n [(3, .int (nI m)), (2, .int (nI q)), (0, .ref 0), (1, .int (nI b))] dX6_readAs_119 (Nat.le_of_ble_eq_true rfl) rfl ?_
  refine aw_iload_n dX6_readAs_120 0 rfl ?_
  refine aw_if_lt 132 dX6_readAs_121 (by decide) (fun c1 => absurd c1 (nI_nn (by omega))) (fun c1 => ?_)
  refine aw_aload_n dX6_readAs_124 2 rfl ?_
  refine aw_bipush (v := -9) dX6_readAs_125 (by decide) ?_
  refine aw_iload_n dX6_readAs_127 0 rfl ?_
  refine aw_callVi [.int (-9), .int (nI m)] [] (sp_X6_tells (d := d - 1) (by omega) (-9) (nI m) ((show sT C1 (tkM C1 x y) from ⟨rfl, rfl, rfl⟩).TR (hP C1 hC).1)) dX6_readAs_128 ml_X6_192 im_X6_tells (((show sT C1 (tkM C1 x y) from ⟨rfl, rfl, rfl⟩).TR (hP C1 hC).1).s 0 (by decide)) (((show sT C1 (tkM C1 x y) from ⟨rfl, rfl, rfl⟩).TR (hP C1 hC).1).n 0 (by decide)) rfl rfl (dl1 (d := d) (by omega)) rfl rfl (Nat.le_of_ble_eq_true rfl) rfl rfl (Nat.zero_le _) (Nat.zero_le _) ?_
  refine aw_iret dX6_readAs_131 rfl (Nat.zero_le _) (Nat.zero_le _) ?_
  exact ⟨rfl, C1, hC, x, y, rfl⟩
theorem sp_X6_readAs_u {d : Nat} (hd : 60 ≤ d) {M : xM} {P : xM → Prop} {p L b q k : Nat} (hT : TR M) (hl : mI M 0 6 = nI L) (bl : L ≤ 200) (hp : mI M 0 7 = nI p) (hb2 : b < 14) (hb : sX6_isIn (lN b) 0 13 = true) (hri : Sp (fX6_readsItem (d - 1)) [.ref 0, .int (nI p)] (ftM M L) (fun r C => r = some (.int (nI q)) ∧ P C)) (hP : ∀ C, P C → TR C ∧ mI C 0 25 = -1 ∧ mI C 1 12 = nI k) (hk16 : k < 16) (hk : k ≤ 13) {z : Nat} {W : Nat → Nat} (hz : ∀ C, P C → mI C 2 12 = nI z) (hz2 : z ≤ 12) (hW : ∀ C, P C → ∀ k, k < z → mI C 4 (144 + k) = nI (W k)) (hw : ∀ k, k < z → W k < 12) (hno : ∀ k, k < z → ¬ W k = 10) (hfr : ∀ C, P C → Sp (fX6_firstRefused (d - 1)) [.ref 0, .int 12, .int (nI b)] C (fun r D => r = some (.int (-1)) ∧ ∃ x y, D = tkM C x y)) (hfree : ∀ C, P C → sX6_free C = -1) : Sp (fX6_readAs d) [.ref 0, .int (nI b)] M (fun r B => r = some (.int (-3)) ∧ ∃ C, P C ∧ ∃ x y, B = tX6_tells (tkM C x y) (-3) (-1)) := by
  refine Sp.of pn_X6 (Nat.le_of_ble_eq_true rfl) (fun h => Bool.noConfusion h) ?_
  refine aw_iload_n dX6_readAs_0 1 rfl ?_
  refine aw_i2lN b dX6_readAs_1 rfl (by omega) ?_
  refine aw_lconst (v := 0) dX6_readAs_2 (by decide) ?_
  refine aw_ldc2 dX6_readAs_3 kc_X6_141 ?_
  refine aw_callSi [.long (lN b), .long 0, .long 13] [] (sp_X6_isIn (d := d - 1) (by omega) (lN b) 0 13 ) dX6_readAs_6 ml_X6_73 sm_X6_isIn rfl (dl1 (d := d) (by omega)) rfl rfl (Nat.le_of_ble_eq_true rfl) rfl rfl (Nat.zero_le _) (Nat.zero_le _) ?_
  refine aw_if_ne 19 dX6_readAs_9 (by decide) (fun c1 => ?_) (fun c1 => absurd c1 (bz_n0.mpr hb))
  refine aw_aload_n dX6_readAs_19 0 rfl ?_
  refine aw_callVv [] [] (sp_ft (d := d - 1) hT hl bl) dX6_readAs_20 ml_X6_369 im_X6_fromTape (hT.s 0 (by decide)) (hT.n 0 (by decide)) rfl rfl (dl1 (d := d) (by omega)) rfl rfl (Nat.le_of_ble_eq_true rfl) rfl rfl (Nat.zero_le _) (Nat.zero_le _) ?_
  refine aw_aload_n dX6_readAs_23 0 rfl ?_
  refine aw_aload_n dX6_readAs_24 0 rfl ?_
  refine aw_getI dX6_readAs_25 fl_X6_366 (((sT_ftM M L).TR hT).s 0 (by decide)) (((sT_ftM M L).TR hT).n 0 (by decide)) ?_
  refine aw_topE ((ftM_0 M L (by decide)).trans hp) ?_
  refine aw_callVx [.int (nI p)] [] hri dX6_readAs_28 ml_X6_372 im_X6_readsItem (((sT_ftM M L).TR hT).s 0 (by decide)) (((sT_ftM M L).TR hT).n 0 (by decide)) rfl rfl (dl1 (d := d) (by omega)) rfl rfl (Nat.le_of_ble_eq_true rfl) rfl rfl (Nat.zero_le _) (Nat.zero_le _) (fun r C1 hC => ?_)
  obtain ⟨rfl, hC⟩ := hC
  refine aw_cons ?_
  refine aw_istore_n [(2, .int (nI q)), (0, .ref 0), (1, .int (nI b))] dX6_readAs_31 (Nat.le_of_ble_eq_true rfl) rfl ?_
  refine aw_aload_n dX6_readAs_32 1 rfl ?_
  refine aw_getI dX6_readAs_33 fl_X6_283 ((hP C1 hC).1.s 0 (by decide)) ((hP C1 hC).1.n 0 (by decide)) ?_
  refine aw_topE (hP C1 hC).2.1 ?_
  refine aw_if_lt 50 dX6_readAs_36 (by decide) (fun c2 => ?_) (fun c2 => absurd (by decide) c2)
  refine aw_aload_n dX6_readAs_50 1 rfl ?_
  refine aw_getR (b := 1) dX6_readAs_51 fl_X6_7 rfl ((hP C1 hC).1.s 0 (by decide)) ((hP C1 hC).1.n 0 (by decide)) ((hP C1 hC).1.r 0) ?_
  refine aw_bipush (v := 12) dX6_readAs_54 (by decide) ?_
  refine aw_ialdN 12 dX6_readAs_56 ((hP C1 hC).1.s 1 (by decide)) ((hP C1 hC).1.n 1 (by decide)) rfl (by omega) (by first | decide | omega) ?_
  refine aw_topE (hP C1 hC).2.2 ?_
  refine aw_bipush (v := 13) dX6_readAs_57 (by decide) ?_
  refine aw_icmp_leN k 13 70 dX6_readAs_59 (by decide) rfl rfl (by omega) (by omega) (fun c3 => ?_) (fun c3 => absurd (by omega) c3)
  refine aw_iconst (v := 0) dX6_readAs_70 (by decide) ?_
  refine aw_istore_n [(3, .int 0), (2, .int (nI q)), (0, .ref 0), (1, .int (nI b))] dX6_readAs_71 (Nat.le_of_ble_eq_true rfl) rfl ?_
  refine ra_all (hP C1 hC).1 (hz C1 hC) hz2 (hW C1 hC) hw ?_ z 0 (by omega) (fun k _ h => hno k h)
  refine aw_aload_n dX6_readAs_112 2 rfl ?_
  refine aw_bipush (v := 12) dX6_readAs_113 (by decide) ?_
  refine aw_iload_n dX6_readAs_115 3 rfl ?_
  refine aw_callVx [.int 12, .int (nI b)] [] (hfr C1 hC) dX6_readAs_116 ml_X6_220 im_X6_firstRefused ((hP C1 hC).1.s 0 (by decide)) ((hP C1 hC).1.n 0 (by decide)) rfl rfl (dl1 (d := d) (by omega)) rfl rfl (Nat.le_of_ble_eq_true rfl) rfl rfl (Nat.zero_le _) (Nat.zero_le _) (fun r D1 hD => ?_)
  obtain ⟨rfl, x, y, rfl⟩ := hD
  refine aw_cons ?_
  refine aw_istore_n [(3, .int (-1)), (2, .int (nI q)), (0, .ref 0), (1, .int (nI b))] dX6_readAs_119 (Nat.le_of_ble_eq_true rfl) rfl ?_
  refine aw_iload_n dX6_readAs_120 0 rfl ?_
  refine aw_if_lt 132 dX6_readAs_121 (by decide) (fun c1 => ?_) (fun c1 => absurd (by decide) c1)
  refine aw_aload_n dX6_readAs_132 2 rfl ?_
  refine aw_callVi [] [] (sp_X6_free (d := d - 1) (by omega) ((show sT C1 (tkM C1 x y) from ⟨rfl, rfl, rfl⟩).TR (hP C1 hC).1)) dX6_readAs_133 ml_X6_151 im_X6_free (((show sT C1 (tkM C1 x y) from ⟨rfl, rfl, rfl⟩).TR (hP C1 hC).1).s 0 (by decide)) (((show sT C1 (tkM C1 x y) from ⟨rfl, rfl, rfl⟩).TR (hP C1 hC).1).n 0 (by decide)) rfl rfl (dl1 (d := d) (by omega)) rfl rfl (Nat.le_of_ble_eq_true rfl) rfl rfl (Nat.zero_le _) (Nat.zero_le _) ?_
  refine aw_topE ((free_tk C1 x y).trans (hfree C1 hC)) ?_
  refine aw_if_ge 147 dX6_readAs_136 (by decide) (fun c2 => absurd c2 (by decide)) (fun c2 => ?_)
  refine aw_aload_n dX6_readAs_139 2 rfl ?_
  refine aw_bipush (v := -3) dX6_readAs_140 (by decide) ?_
  refine aw_iconst (v := -1) dX6_readAs_142 (by decide) ?_
  refine aw_callVi [.int (-3), .int (-1)] [] (sp_X6_tells (d := d - 1) (by omega) (-3) (-1) ((show sT C1 (tkM C1 x y) from ⟨rfl, rfl, rfl⟩).TR (hP C1 hC).1)) dX6_readAs_143 ml_X6_192 im_X6_tells (((show sT C1 (tkM C1 x y) from ⟨rfl, rfl, rfl⟩).TR (hP C1 hC).1).s 0 (by decide)) (((show sT C1 (tkM C1 x y) from ⟨rfl, rfl, rfl⟩).TR (hP C1 hC).1).n 0 (by decide)) rfl rfl (dl1 (d := d) (by omega)) rfl rfl (Nat.le_of_ble_eq_true rfl) rfl rfl (Nat.zero_le _) (Nat.zero_le _) ?_
  refine aw_iret dX6_readAs_146 rfl (Nat.zero_le _) (Nat.zero_le _) ?_
  exact ⟨rfl, C1, hC, x, y, rfl⟩
theorem sp_X6_readAs_k {d : Nat} (hd : 60 ≤ d) {M : xM} {P : xM → Prop} {p L b q k : Nat} (hT : TR M) (hl : mI M 0 6 = nI L) (bl : L ≤ 200) (hp : mI M 0 7 = nI p) (hb2 : b < 14) (hb : sX6_isIn (lN b) 0 13 = true) (hri : Sp (fX6_readsItem (d - 1)) [.ref 0, .int (nI p)] (ftM M L) (fun r C => r = some (.int (nI q)) ∧ P C)) (hP : ∀ C, P C → TR C ∧ mI C 0 25 = -1 ∧ mI C 1 12 = nI k) (hk16 : k < 16) (hk : k ≤ 13) {z : Nat} {W : Nat → Nat} (hz : ∀ C, P C → mI C 2 12 = nI z) (hz2 : z ≤ 12) (hW : ∀ C, P C → ∀ k, k < z → mI C 4 (144 + k) = nI (W k)) (hw : ∀ k, k < z → W k < 12) (hno : ∀ k, k < z → ¬ W k = 10) (hfr : ∀ C, P C → Sp (fX6_firstRefused (d - 1)) [.ref 0, .int 12, .int (nI b)] C (fun r D => r = some (.int (-1)) ∧ ∃ x y, D = tkM C x y)) {f : Nat} {Q : xM → Prop} (hf : f < 12) (hfree : ∀ C, P C → sX6_free C = nI f) (hcv : ∀ C, P C → ∀ x y, Sp (fX6_converted (d - 1)) [.ref 0, .int 12, .int (nI b)] (stI (tkM C x y) 0 7 (nI q)) (fun r D => r = some (.int (nI f)) ∧ Q D)) : Sp (fX6_readAs d) [.ref 0, .int (nI b)] M (fun r B => r = some (.int (nI f)) ∧ Q B) := by
  refine Sp.of pn_X6 (Nat.le_of_ble_eq_true rfl) (fun h => Bool.noConfusion h) ?_
  refine aw_iload_n dX6_readAs_0 1 rfl ?_
  refine aw_i2lN b dX6_readAs_1 rfl (by omega) ?_
  refine aw_lconst (v := 0) dX6_readAs_2 (by decide) ?_
  refine aw_ldc2 dX6_readAs_3 kc_X6_141 ?_
  refine aw_callSi [.long (lN b), .long 0, .long 13] [] (sp_X6_isIn (d := d - 1) (by omega) (lN b) 0 13 ) dX6_readAs_6 ml_X6_73 sm_X6_isIn rfl (dl1 (d := d) (by omega)) rfl rfl (Nat.le_of_ble_eq_true rfl) rfl rfl (Nat.zero_le _) (Nat.zero_le _) ?_
  refine aw_if_ne 19 dX6_readAs_9 (by decide) (fun c1 => ?_) (fun c1 => absurd c1 (bz_n0.mpr hb))
  refine aw_aload_n dX6_readAs_19 0 rfl ?_
  refine aw_callVv [] [] (sp_ft (d := d - 1) hT hl bl) dX6_readAs_20 ml_X6_369 im_X6_fromTape (hT.s 0 (by decide)) (hT.n 0 (by decide)) rfl rfl (dl1 (d := d) (by omega)) rfl rfl (Nat.le_of_ble_eq_true rfl) rfl rfl (Nat.zero_le _) (Nat.zero_le _) ?_
  refine aw_aload_n dX6_readAs_23 0 rfl ?_
  refine aw_aload_n dX6_readAs_24 0 rfl ?_
  refine aw_getI dX6_readAs_25 fl_X6_366 (((sT_ftM M L).TR hT).s 0 (by decide)) (((sT_ftM M L).TR hT).n 0 (by decide)) ?_
  refine aw_topE ((ftM_0 M L (by decide)).trans hp) ?_
  refine aw_callVx [.int (nI p)] [] hri dX6_readAs_28 ml_X6_372 im_X6_readsItem (((sT_ftM M L).TR hT).s 0 (by decide)) (((sT_ftM M L).TR hT).n 0 (by decide)) rfl rfl (dl1 (d := d) (by omega)) rfl rfl (Nat.le_of_ble_eq_true rfl) rfl rfl (Nat.zero_le _) (Nat.zero_le _) (fun r C1 hC => ?_)
  obtain ⟨rfl, hC⟩ := hC
  refine aw_cons ?_
  refine aw_istore_n [(2, .int (nI q)), (0, .ref 0), (1, .int (nI b))] dX6_readAs_31 (Nat.le_of_ble_eq_true rfl) rfl ?_
  refine aw_aload_n dX6_readAs_32 1 rfl ?_
  refine aw_getI dX6_readAs_33 fl_X6_283 ((hP C1 hC).1.s 0 (by decide)) ((hP C1 hC).1.n 0 (by decide)) ?_
  refine aw_topE (hP C1 hC).2.1 ?_
  refine aw_if_lt 50 dX6_readAs_36 (by decide) (fun c2 => ?_) (fun c2 => absurd (by decide) c2)
  refine aw_aload_n dX6_readAs_50 1 rfl ?_
  refine aw_getR (b := 1) dX6_readAs_51 fl_X6_7 rfl ((hP C1 hC).1.s 0 (by decide)) ((hP C1 hC).1.n 0 (by decide)) ((hP C1 hC).1.r 0) ?_
  refine aw_bipush (v := 12) dX6_readAs_54 (by decide) ?_
  refine aw_ialdN 12 dX6_readAs_56 ((hP C1 hC).1.s 1 (by decide)) ((hP C1 hC).1.n 1 (by decide)) rfl (by omega) (by first | decide | omega) ?_
  refine aw_topE (hP C1 hC).2.2 ?_
  refine aw_bipush (v := 13) dX6_readAs_57 (by decide) ?_
  refine aw_icmp_leN k 13 70 dX6_readAs_59 (by decide) rfl rfl (by omega) (by omega) (fun c3 => ?_) (fun c3 => absurd (by omega) c3)
  refine aw_iconst (v := 0) dX6_readAs_70 (by decide) ?_
  refine aw_istore_n [(3, .int 0), (2, .int (nI q)), (0, .ref 0), (1, .int (nI b))] dX6_readAs_71 (Nat.le_of_ble_eq_true rfl) rfl ?_
  refine ra_all (hP C1 hC).1 (hz C1 hC) hz2 (hW C1 hC) hw ?_ z 0 (by omega) (fun k _ h => hno k h)
  refine aw_aload_n dX6_readAs_112 2 rfl ?_
  refine aw_bipush (v := 12) dX6_readAs_113 (by decide) ?_
  refine aw_iload_n dX6_readAs_115 3 rfl ?_
  refine aw_callVx [.int 12, .int (nI b)] [] (hfr C1 hC) dX6_readAs_116 ml_X6_220 im_X6_firstRefused ((hP C1 hC).1.s 0 (by decide)) ((hP C1 hC).1.n 0 (by decide)) rfl rfl (dl1 (d := d) (by omega)) rfl rfl (Nat.le_of_ble_eq_true rfl) rfl rfl (Nat.zero_le _) (Nat.zero_le _) (fun r D1 hD => ?_)
  obtain ⟨rfl, x, y, rfl⟩ := hD
  refine aw_cons ?_
  refine aw_istore_n [(3, .int (-1)), (2, .int (nI q)), (0, .ref 0), (1, .int (nI b))] dX6_readAs_119 (Nat.le_of_ble_eq_true rfl) rfl ?_
  refine aw_iload_n dX6_readAs_120 0 rfl ?_
  refine aw_if_lt 132 dX6_readAs_121 (by decide) (fun c1 => ?_) (fun c1 => absurd (by decide) c1)
  refine aw_aload_n dX6_readAs_132 2 rfl ?_
  refine aw_callVi [] [] (sp_X6_free (d := d - 1) (by omega) ((show sT C1 (tkM C1 x y) from ⟨rfl, rfl, rfl⟩).TR (hP C1 hC).1)) dX6_readAs_133 ml_X6_151 im_X6_free (((show sT C1 (tkM C1 x y) from ⟨rfl, rfl, rfl⟩).TR (hP C1 hC).1).s 0 (by decide)) (((show sT C1 (tkM C1 x y) from ⟨rfl, rfl, rfl⟩).TR (hP C1 hC).1).n 0 (by decide)) rfl rfl (dl1 (d := d) (by omega)) rfl rfl (Nat.le_of_ble_eq_true rfl) rfl rfl (Nat.zero_le _) (Nat.zero_le _) ?_
  refine aw_topE ((free_tk C1 x y).trans (hfree C1 hC)) ?_
  refine aw_if_ge 147 dX6_readAs_136 (by decide) (fun c2 => ?_) (fun c2 => absurd (Int32.not_lt.mp (nI_nn (by omega))) c2)
  refine aw_aload_n dX6_readAs_147 2 rfl ?_
  refine aw_iload_n dX6_readAs_148 1 rfl ?_
  refine aw_putI dX6_readAs_149 fl_X6_366 (Or.inl rfl) (((show sT C1 (tkM C1 x y) from ⟨rfl, rfl, rfl⟩).TR (hP C1 hC).1).s 0 (by decide)) (((show sT C1 (tkM C1 x y) from ⟨rfl, rfl, rfl⟩).TR (hP C1 hC).1).n 0 (by decide)) ?_
  refine aw_aload_n dX6_readAs_152 2 rfl ?_
  refine aw_bipush (v := 12) dX6_readAs_153 (by decide) ?_
  refine aw_iload_n dX6_readAs_155 3 rfl ?_
  refine aw_callVx [.int 12, .int (nI b)] [] (hcv C1 hC x y) dX6_readAs_156 ml_X6_223 im_X6_converted (((sT.I (tkM C1 x y) 0 7 (nI q)).TR ((show sT C1 (tkM C1 x y) from ⟨rfl, rfl, rfl⟩).TR (hP C1 hC).1)).s 0 (by decide)) (((sT.I (tkM C1 x y) 0 7 (nI q)).TR ((show sT C1 (tkM C1 x y) from ⟨rfl, rfl, rfl⟩).TR (hP C1 hC).1)).n 0 (by decide)) rfl rfl (dl1 (d := d) (by omega)) rfl rfl (Nat.le_of_ble_eq_true rfl) rfl rfl (Nat.zero_le _) (Nat.zero_le _) (fun r D2 hD2 => ?_)
  obtain ⟨rfl, hD2⟩ := hD2
  refine aw_cons ?_
  refine aw_iret dX6_readAs_159 rfl (Nat.zero_le _) (Nat.zero_le _) ?_
  exact ⟨rfl, hD2⟩
