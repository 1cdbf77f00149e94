-- FIND
theorem lp_fiC {d : Nat} (hd : 60 ≤ d) {M0 : xM} {B : Nat → Nat} {L t : Nat} {l : List Int32} (hL : L ≤ 200) (h2 : mI M0 2 1 = nI L) (hB : ∀ i, i < L → mI M0 3 i = nI (B i) ∧ B i < 256) (h4 : mI M0 4 1 = nI l.length) (h5 : ∀ i, i < l.length → mI M0 5 i = l.getD i 0) (hll : l.length ≤ 1464) : ∀ n p (A : xM), p + n = L → FC M0 A → AW (fX5_find d) 23 [(3, .int (nI p)), (2, .int 0), (0, .ref 0), (1, .int (nI t))] [] A 0 0 (fun r C => r = some (.int (fndB B L l n p)) ∧ FC M0 C) := by
  intro n
  induction n with
  | zero =>
    intro p A hp hA
    refine aw_iload_n dX5_find_23 0 rfl ?_
    refine aw_aload_n dX5_find_24 2 rfl ?_
    refine aw_getR (b := 2) dX5_find_25 fl_X5_20 rfl (hA.1.s 0 (by decide)) (hA.1.n 0 (by decide)) (hA.1.r 0 1 (by decide) (by decide)) ?_
    refine aw_getI dX5_find_28 fl_X5_226 (hA.1.s 2 (by decide)) (hA.1.n 2 (by decide)) ?_
    refine aw_topE ((congrFun (hA.2.1 2 (by decide)) 1).trans h2) ?_
    refine aw_icmp_geN p L 85 dX5_find_31 (by decide) rfl rfl (by omega) (by omega) (fun c1 => ?_) (fun c1 => absurd (by omega) c1)
    refine aw_bipush (v := -4) dX5_find_85 (by decide) ?_
    refine aw_iret dX5_find_87 rfl (Nat.zero_le _) (Nat.zero_le _) ?_
    exact ⟨rfl, hA⟩
  | succ n ih =>
    intro p A hp hA
    have hti := sp_ti (d := d - 1) (by omega) hA.1 (hA.D hL h2 hB p) (by omega)
    cases e : pItem B L p with
    | error f =>
      rw [e] at hti
      rw [fnd_f n (fHit_e l e)]
      refine aw_iload_n dX5_find_23 0 rfl ?_
      refine aw_aload_n dX5_find_24 2 rfl ?_
      refine aw_getR (b := 2) dX5_find_25 fl_X5_20 rfl (hA.1.s 0 (by decide)) (hA.1.n 0 (by decide)) (hA.1.r 0 1 (by decide) (by decide)) ?_
      refine aw_getI dX5_find_28 fl_X5_226 (hA.1.s 2 (by decide)) (hA.1.n 2 (by decide)) ?_
      refine aw_topE ((congrFun (hA.2.1 2 (by decide)) 1).trans h2) ?_
      refine aw_icmp_geN p L 85 dX5_find_31 (by decide) rfl rfl (by omega) (by omega) (fun c1 => absurd c1 (by omega)) (fun c1 => ?_)
      refine aw_aload_n dX5_find_34 2 rfl ?_
      refine aw_getR (b := 8) dX5_find_35 fl_X5_35 rfl (hA.1.s 0 (by decide)) (hA.1.n 0 (by decide)) (hA.1.r 0 4 (by decide) (by decide)) ?_
      refine aw_aload_n dX5_find_38 2 rfl ?_
      refine aw_getR (b := 2) dX5_find_39 fl_X5_20 rfl (hA.1.s 0 (by decide)) (hA.1.n 0 (by decide)) (hA.1.r 0 1 (by decide) (by decide)) ?_
      refine aw_iload_n dX5_find_42 0 rfl ?_
      refine aw_callVx [.ref 2, .int (nI p)] [] hti dX5_find_43 ml_X5_238 im_X1_takeItem (hA.1.s 8 (by decide)) (hA.1.n 8 (by decide)) rfl rfl (dl1 (d := d) (by omega)) rfl rfl (Nat.le_of_ble_eq_true rfl) rfl rfl (Nat.zero_le _) (Nat.zero_le _) (fun r A1 hA1 => ?_)
      obtain ⟨rfl, hA1⟩ := hA1
      refine aw_cons ?_
      have hF1 : FC M0 A1 := hA.rd hA1.1
      refine aw_if_ne 52 dX5_find_46 (by decide) (fun c2 => absurd rfl c2) (fun c2 => ?_)
      refine aw_goto 79 dX5_find_49 (by decide) ?_
      refine aw_iincN p 1 [(3, .int (nI (p + 1))), (2, .int 0), (0, .ref 0), (1, .int (nI t))] dX5_find_79 0 rfl rfl rfl (Nat.le_of_ble_eq_true rfl) rfl ?_
      refine aw_goto 23 dX5_find_82 (by decide) ?_
      exact ih (p + 1) A1 (by omega) hF1
    | ok pr =>
      rw [e] at hti
      obtain ⟨hi, -⟩ := pItem_ok (fun i hi => (hB i hi).2) e
      obtain ⟨hb, hlen⟩ := it_b hi (m := 0) (by decide)
      have hw : ∀ A1, TC A1 → CS (itM A 2 p) pr.1 pr.2 A1 → Sp (fX4_write (d - 1)) [.ref 50, .int (nI 0), .int (nI 0)] A1 (dt none (emM (nuM (wrM A1 50 6 0) 50 (itR 0 (rKap pr.2) (rZ pr.2) (rW pr.2) (rV pr.2) 0).2) 6 1 (6 + 1) (itR 0 (rKap pr.2) (rZ pr.2) (rW pr.2) (rV pr.2) 0).1)) := fun A1 h1 h => it_wr (by omega) h1 h.2.2.2.2 hi (by decide)
      have hh := fHit_k l e
      generalize itR 0 (rKap pr.2) (rZ pr.2) (rW pr.2) (rV pr.2) 0 = it at hb hlen hw hh
      have hfd0 : ∀ A1, FC M0 A1 → (l = it.1 → Sp (fX3_firstDifference (d - 1)) [.ref 4, .ref 6] (emM (nuM (wrM A1 50 6 0) 50 it.2) 6 1 (6 + 1) it.1) (dt (some (.int (-4))) (emM (nuM (wrM A1 50 6 0) 50 it.2) 6 1 (6 + 1) it.1))) ∧ (¬ l = it.1 → ∃ x, ¬ x = -4 ∧ Sp (fX3_firstDifference (d - 1)) [.ref 4, .ref 6] (emM (nuM (wrM A1 50 6 0) 50 it.2) 6 1 (6 + 1) it.1) (dt (some (.int x)) (emM (nuM (wrM A1 50 6 0) 50 it.2) 6 1 (6 + 1) it.1))) := by
        intro A1 hF1
        have hF2 := hF1.wr 0 it.2 it.1
        obtain ⟨w1, w2, w3, w4⟩ := wr_50 hF1.1 0 it.2 it.1
        exact sp_fdl (by omega) hF2.1 (by rw [hF2.2.1 4 (by decide)]; exact h4) w3 hll hlen (fun i hi => by rw [hF2.2.1 5 (by decide)]; exact h5 i hi) w4
      by_cases hq : it.1 = l
      · rw [fnd_t n (hh.trans (decide_eq_true hq))]
        have hfd : ∀ A1, FC M0 A1 → Sp (fX3_firstDifference (d - 1)) [.ref 4, .ref 6] (emM (nuM (wrM A1 50 6 0) 50 it.2) 6 1 (6 + 1) it.1) (dt (some (.int (-4))) (emM (nuM (wrM A1 50 6 0) 50 it.2) 6 1 (6 + 1) it.1)) ∧ True := fun A1 h => ⟨(hfd0 A1 h).1 hq.symm, trivial⟩
        refine aw_iload_n dX5_find_23 0 rfl ?_
        refine aw_aload_n dX5_find_24 2 rfl ?_
        refine aw_getR (b := 2) dX5_find_25 fl_X5_20 rfl (hA.1.s 0 (by decide)) (hA.1.n 0 (by decide)) (hA.1.r 0 1 (by decide) (by decide)) ?_
        refine aw_getI dX5_find_28 fl_X5_226 (hA.1.s 2 (by decide)) (hA.1.n 2 (by decide)) ?_
        refine aw_topE ((congrFun (hA.2.1 2 (by decide)) 1).trans h2) ?_
        refine aw_icmp_geN p L 85 dX5_find_31 (by decide) rfl rfl (by omega) (by omega) (fun c1 => absurd c1 (by omega)) (fun c1 => ?_)
        refine aw_aload_n dX5_find_34 2 rfl ?_
        refine aw_getR (b := 8) dX5_find_35 fl_X5_35 rfl (hA.1.s 0 (by decide)) (hA.1.n 0 (by decide)) (hA.1.r 0 4 (by decide) (by decide)) ?_
        refine aw_aload_n dX5_find_38 2 rfl ?_
        refine aw_getR (b := 2) dX5_find_39 fl_X5_20 rfl (hA.1.s 0 (by decide)) (hA.1.n 0 (by decide)) (hA.1.r 0 1 (by decide) (by decide)) ?_
        refine aw_iload_n dX5_find_42 0 rfl ?_
        refine aw_callVx [.ref 2, .int (nI p)] [] hti dX5_find_43 ml_X5_238 im_X1_takeItem (hA.1.s 8 (by decide)) (hA.1.n 8 (by decide)) rfl rfl (dl1 (d := d) (by omega)) rfl rfl (Nat.le_of_ble_eq_true rfl) rfl rfl (Nat.zero_le _) (Nat.zero_le _) (fun r A1 hA1 => ?_)
        obtain ⟨rfl, hA1⟩ := hA1
        refine aw_cons ?_
        have hF1 : FC M0 A1 := hA.rd hA1.1
        refine aw_if_ne 52 dX5_find_46 (by decide) (fun c2 => ?_) (fun c2 => absurd c2 (by decide))
        refine aw_aload_n dX5_find_52 2 rfl ?_
        refine aw_getR (b := 50) dX5_find_53 fl_X5_54 rfl (hF1.1.s 0 (by decide)) (hF1.1.n 0 (by decide)) (hF1.1.r 0 7 (by decide) (by decide)) ?_
        refine aw_iconst (v := 0) dX5_find_56 (by decide) ?_
        refine aw_iconst (v := 0) dX5_find_57 (by decide) ?_
        refine aw_callVv [.int 0, .int 0] [] (hw A1 hF1.1 hA1) dX5_find_58 ml_X5_219 im_X4_write (hF1.1.s 50 (by decide)) (hF1.1.n 50 (by decide)) rfl rfl (dl1 (d := d) (by omega)) rfl rfl (Nat.le_of_ble_eq_true rfl) rfl rfl (Nat.zero_le _) (Nat.zero_le _) ?_
        have hF2 := hF1.wr 0 it.2 it.1
        refine aw_aload_n dX5_find_61 2 rfl ?_
        refine aw_getR (b := 4) dX5_find_62 fl_X5_24 rfl (hF2.1.s 0 (by decide)) (hF2.1.n 0 (by decide)) (hF2.1.r 0 2 (by decide) (by decide)) ?_
        refine aw_aload_n dX5_find_65 2 rfl ?_
        refine aw_getR (b := 6) dX5_find_66 fl_X5_27 rfl (hF2.1.s 0 (by decide)) (hF2.1.n 0 (by decide)) (hF2.1.r 0 3 (by decide) (by decide)) ?_
        refine aw_callVi [.ref 6] [] (hfd A1 hF1).1 dX5_find_69 ml_X5_260 im_X3_firstDifference (hF2.1.s 4 (by decide)) (hF2.1.n 4 (by decide)) rfl rfl (dl1 (d := d) (by omega)) rfl rfl (Nat.le_of_ble_eq_true rfl) rfl rfl (Nat.zero_le _) (Nat.zero_le _) ?_
        refine aw_bipush (v := -4) dX5_find_72 (by decide) ?_
        refine aw_icmp_ne 79 dX5_find_74 (by decide) (fun c3 => absurd rfl c3) (fun c3 => ?_)
        refine aw_iload_n dX5_find_77 0 rfl ?_
        refine aw_iret dX5_find_78 rfl (Nat.zero_le _) (Nat.zero_le _) ?_
        exact ⟨rfl, hF2⟩
      · rw [fnd_f n (hh.trans (decide_eq_false hq))]
        have hfd : ∀ A1, FC M0 A1 → ∃ x, ¬ x = -4 ∧ Sp (fX3_firstDifference (d - 1)) [.ref 4, .ref 6] (emM (nuM (wrM A1 50 6 0) 50 it.2) 6 1 (6 + 1) it.1) (dt (some (.int x)) (emM (nuM (wrM A1 50 6 0) 50 it.2) 6 1 (6 + 1) it.1)) := fun A1 h => (hfd0 A1 h).2 (fun z => hq z.symm)
        refine aw_iload_n dX5_find_23 0 rfl ?_
        refine aw_aload_n dX5_find_24 2 rfl ?_
        refine aw_getR (b := 2) dX5_find_25 fl_X5_20 rfl (hA.1.s 0 (by decide)) (hA.1.n 0 (by decide)) (hA.1.r 0 1 (by decide) (by decide)) ?_
        refine aw_getI dX5_find_28 fl_X5_226 (hA.1.s 2 (by decide)) (hA.1.n 2 (by decide)) ?_
        refine aw_topE ((congrFun (hA.2.1 2 (by decide)) 1).trans h2) ?_
        refine aw_icmp_geN p L 85 dX5_find_31 (by decide) rfl rfl (by omega) (by omega) (fun c1 => absurd c1 (by omega)) (fun c1 => ?_)
        refine aw_aload_n dX5_find_34 2 rfl ?_
        refine aw_getR (b := 8) dX5_find_35 fl_X5_35 rfl (hA.1.s 0 (by decide)) (hA.1.n 0 (by decide)) (hA.1.r 0 4 (by decide) (by decide)) ?_
        refine aw_aload_n dX5_find_38 2 rfl ?_
        refine aw_getR (b := 2) dX5_find_39 fl_X5_20 rfl (hA.1.s 0 (by decide)) (hA.1.n 0 (by decide)) (hA.1.r 0 1 (by decide) (by decide)) ?_
        refine aw_iload_n dX5_find_42 0 rfl ?_
        refine aw_callVx [.ref 2, .int (nI p)] [] hti dX5_find_43 ml_X5_238 im_X1_takeItem (hA.1.s 8 (by decide)) (hA.1.n 8 (by decide)) rfl rfl (dl1 (d := d) (by omega)) rfl rfl (Nat.le_of_ble_eq_true rfl) rfl rfl (Nat.zero_le _) (Nat.zero_le _) (fun r A1 hA1 => ?_)
        obtain ⟨rfl, hA1⟩ := hA1
        refine aw_cons ?_
        have hF1 : FC M0 A1 := hA.rd hA1.1
        refine aw_if_ne 52 dX5_find_46 (by decide) (fun c2 => ?_) (fun c2 => absurd c2 (by decide))
        refine aw_aload_n dX5_find_52 2 rfl ?_
        refine aw_getR (b := 50) dX5_find_53 fl_X5_54 rfl (hF1.1.s 0 (by decide)) (hF1.1.n 0 (by decide)) (hF1.1.r 0 7 (by decide) (by decide)) ?_
        refine aw_iconst (v := 0) dX5_find_56 (by decide) ?_
        refine aw_iconst (v := 0) dX5_find_57 (by decide) ?_
        refine aw_callVv [.int 0, .int 0] [] (hw A1 hF1.1 hA1) dX5_find_58 ml_X5_219 im_X4_write (hF1.1.s 50 (by decide)) (hF1.1.n 50 (by decide)) rfl rfl (dl1 (d := d) (by omega)) rfl rfl (Nat.le_of_ble_eq_true rfl) rfl rfl (Nat.zero_le _) (Nat.zero_le _) ?_
        have hF2 := hF1.wr 0 it.2 it.1
        refine aw_aload_n dX5_find_61 2 rfl ?_
        refine aw_getR (b := 4) dX5_find_62 fl_X5_24 rfl (hF2.1.s 0 (by decide)) (hF2.1.n 0 (by decide)) (hF2.1.r 0 2 (by decide) (by decide)) ?_
        refine aw_aload_n dX5_find_65 2 rfl ?_
        refine aw_getR (b := 6) dX5_find_66 fl_X5_27 rfl (hF2.1.s 0 (by decide)) (hF2.1.n 0 (by decide)) (hF2.1.r 0 3 (by decide) (by decide)) ?_
        refine aw_callVi [.ref 6] [] (hfd A1 hF1).choose_spec.2 dX5_find_69 ml_X5_260 im_X3_firstDifference (hF2.1.s 4 (by decide)) (hF2.1.n 4 (by decide)) rfl rfl (dl1 (d := d) (by omega)) rfl rfl (Nat.le_of_ble_eq_true rfl) rfl rfl (Nat.zero_le _) (Nat.zero_le _) ?_
        refine aw_bipush (v := -4) dX5_find_72 (by decide) ?_
        refine aw_icmp_ne 79 dX5_find_74 (by decide) (fun c3 => ?_) (fun c3 => absurd c3 (hfd A1 hF1).choose_spec.1)
        refine aw_iincN p 1 [(3, .int (nI (p + 1))), (2, .int 0), (0, .ref 0), (1, .int (nI t))] dX5_find_79 0 rfl rfl rfl (Nat.le_of_ble_eq_true rfl) rfl ?_
        refine aw_goto 23 dX5_find_82 (by decide) ?_
        exact ih (p + 1) (emM (nuM (wrM A1 50 6 0) 50 it.2) 6 1 (6 + 1) it.1) (by omega) hF2
theorem sp_X5_find_e {d : Nat} (hd : 60 ≤ d) {M : xM} (x1 : Int32) (hT : TC M) (he : ¬ sX5_slotError M x1 = 0) : Sp (fX5_find d) [.ref 0, .int x1] M (dt (some (.int (sX5_slotError M x1))) M) := by
  refine Sp.of pn_X5 (Nat.le_of_ble_eq_true rfl) (fun h => Bool.noConfusion h) ?_
  refine aw_aload_n dX5_find_0 0 rfl ?_
  refine aw_iload_n dX5_find_1 1 rfl ?_
  refine aw_callVi [.int x1] [] (sp_X5_slotError (d := d - 1) (by omega) x1 hT) dX5_find_2 ml_X5_94 im_X5_slotError (hT.s 0 (by decide)) (hT.n 0 (by decide)) rfl rfl (dl1 (d := d) (by omega)) rfl rfl (Nat.le_of_ble_eq_true rfl) rfl rfl (Nat.zero_le _) (Nat.zero_le _) ?_
  refine aw_istore_n [(2, .int (sX5_slotError M x1)), (0, .ref 0), (1, .int x1)] dX5_find_5 (Nat.le_of_ble_eq_true rfl) rfl ?_
  refine aw_iload_n dX5_find_6 0 rfl ?_
  refine aw_if_eq 12 dX5_find_7 (by decide) (fun c1 => absurd c1 he) (fun c1 => ?_)
  refine aw_iload_n dX5_find_10 0 rfl ?_
  refine aw_iret dX5_find_11 rfl (Nat.zero_le _) (Nat.zero_le _) ?_
  exact ⟨rfl, rfl⟩
theorem sp_X5_find_k {d : Nat} (hd : 60 ≤ d) {M : xM} {M0 : xM} {B : Nat → Nat} {L t : Nat} {l : List Int32} (hL : L ≤ 200) (h2 : mI M0 2 1 = nI L) (hB : ∀ i, i < L → mI M0 3 i = nI (B i) ∧ B i < 256) (h4 : mI M0 4 1 = nI l.length) (h5 : ∀ i, i < l.length → mI M0 5 i = l.getD i 0) (hll : l.length ≤ 1464) (hT : TC M) (he : sX5_slotError M (nI t) = 0) (hw : Sp (fX4_write (d - 1)) [.ref 46, .int (nI t), .int (nI 0)] M (dt none M0)) (hT0 : TC M0) : Sp (fX5_find d) [.ref 0, .int (nI t)] M (fun r C => r = some (.int (fndB B L l L 0)) ∧ FC M0 C) := by
  refine Sp.of pn_X5 (Nat.le_of_ble_eq_true rfl) (fun h => Bool.noConfusion h) ?_
  refine aw_aload_n dX5_find_0 0 rfl ?_
  refine aw_iload_n dX5_find_1 1 rfl ?_
  refine aw_callVi [.int (nI t)] [] (sp_X5_slotError (d := d - 1) (by omega) (nI t) hT) dX5_find_2 ml_X5_94 im_X5_slotError (hT.s 0 (by decide)) (hT.n 0 (by decide)) rfl rfl (dl1 (d := d) (by omega)) rfl rfl (Nat.le_of_ble_eq_true rfl) rfl rfl (Nat.zero_le _) (Nat.zero_le _) ?_
  refine aw_topE he ?_
  refine aw_istore_n [(2, .int 0), (0, .ref 0), (1, .int (nI t))] dX5_find_5 (Nat.le_of_ble_eq_true rfl) rfl ?_
  refine aw_iload_n dX5_find_6 0 rfl ?_
  refine aw_if_eq 12 dX5_find_7 (by decide) (fun c1 => ?_) (fun c1 => absurd rfl c1)
  refine aw_aload_n dX5_find_12 1 rfl ?_
  refine aw_getR (b := 46) dX5_find_13 fl_X5_44 rfl (hT.s 0 (by decide)) (hT.n 0 (by decide)) (hT.r 0 5 (by decide) (by decide)) ?_
  refine aw_iload_n dX5_find_16 2 rfl ?_
  refine aw_iconst (v := 0) dX5_find_17 (by decide) ?_
  refine aw_callVv [.int (nI t), .int 0] [] hw dX5_find_18 ml_X5_219 im_X4_write (hT.s 46 (by decide)) (hT.n 46 (by decide)) rfl rfl (dl1 (d := d) (by omega)) rfl rfl (Nat.le_of_ble_eq_true rfl) rfl rfl (Nat.zero_le _) (Nat.zero_le _) ?_
  refine aw_iconst (v := 0) dX5_find_21 (by decide) ?_
  refine aw_istore_n [(3, .int 0), (2, .int 0), (0, .ref 0), (1, .int (nI t))] dX5_find_22 (Nat.le_of_ble_eq_true rfl) rfl ?_
  exact lp_fiC hd hL h2 hB h4 h5 hll L 0 M0 (by omega) (FC.rf hT0)
theorem lp_fiR {d : Nat} (hd : 60 ≤ d) {M0 : xM} {B : Nat → Nat} {L t : Nat} {l : List Int32} (hS : RfS M0 B L) (hl : mI M0 0 6 = nI L) (h15 : mI M0 0 15 = nI l.length) (h9 : ∀ i, i < l.length → mI M0 9 i = l.getD i 0) (hll : l.length ≤ 1464) : ∀ n p (C : xM), p + n = L → FRr M0 C → AW (fX6_find d) 39 [(2, .int (nI p)), (0, .ref 0), (1, .int (nI t))] [] C 0 0 (fun r C => r = some (.int (fndB B L l n p)) ∧ FRr M0 C) := by
  have hL := hS.2.1
  intro n
  induction n with
  | zero =>
    intro p C hp hC
    refine aw_iload_n dX6_find_39 0 rfl ?_
    refine aw_aload_n dX6_find_40 1 rfl ?_
    refine aw_getI dX6_find_41 fl_X6_354 ((hC.1.TR hS.1).s 0 (by decide)) ((hC.1.TR hS.1).n 0 (by decide)) ?_
    refine aw_topE ((hC.2.2.2.2.2.1 6 (by decide) (by decide) (by decide) (by decide) (by decide) (by decide)).trans hl) ?_
    refine aw_icmp_geN p L 83 dX6_find_44 (by decide) rfl rfl (by omega) (by omega) (fun c1 => ?_) (fun c1 => absurd (by omega) c1)
    refine aw_bipush (v := -4) dX6_find_83 (by decide) ?_
    refine aw_iret dX6_find_85 rfl (Nat.zero_le _) (Nat.zero_le _) ?_
    exact ⟨rfl, hC⟩
  | succ n ih =>
    intro p C hp hC
    have hri := sp_ri (d := d - 1) (by omega) (hC.D hS) hC.2.2.2.2.2.2 (show p ≤ L by omega)
    cases e : pItem B L p with
    | error f =>
      rw [e] at hri
      have hf := pItem_e e (by omega)
      rw [fnd_f n (fHit_e l e)]
      refine aw_iload_n dX6_find_39 0 rfl ?_
      refine aw_aload_n dX6_find_40 1 rfl ?_
      refine aw_getI dX6_find_41 fl_X6_354 ((hC.1.TR hS.1).s 0 (by decide)) ((hC.1.TR hS.1).n 0 (by decide)) ?_
      refine aw_topE ((hC.2.2.2.2.2.1 6 (by decide) (by decide) (by decide) (by decide) (by decide) (by decide)).trans hl) ?_
      refine aw_icmp_geN p L 83 dX6_find_44 (by decide) rfl rfl (by omega) (by omega) (fun c1 => absurd c1 (by omega)) (fun c1 => ?_)
      refine aw_aload_n dX6_find_47 1 rfl ?_
      refine aw_iload_n dX6_find_48 0 rfl ?_
      refine aw_callVx [.int (nI p)] [] hri dX6_find_49 ml_X6_372 im_X6_readsItem ((hC.1.TR hS.1).s 0 (by decide)) ((hC.1.TR hS.1).n 0 (by decide)) rfl rfl (dl1 (d := d) (by omega)) rfl rfl (Nat.le_of_ble_eq_true rfl) rfl rfl (Nat.zero_le _) (Nat.zero_le _) (fun r C1 hC1 => ?_)
      obtain ⟨⟨y, rfl⟩, hC1⟩ := hC1
      refine aw_cons ?_
      have hF1 : FRr M0 C1 := hC.rd hC1.1
      refine aw_pop dX6_find_52 rfl ?_
      refine aw_aload_n dX6_find_53 1 rfl ?_
      refine aw_getI dX6_find_54 fl_X6_283 ((hF1.1.TR hS.1).s 0 (by decide)) ((hF1.1.TR hS.1).n 0 (by decide)) ?_
      refine aw_topE hC1.2 ?_
      refine aw_if_ge 77 dX6_find_57 (by decide) (fun c2 => ?_) (fun c2 => absurd (Int32.not_lt.mp (nI_nn (by omega))) c2)
      refine aw_iincN p 1 [(2, .int (nI (p + 1))), (0, .ref 0), (1, .int (nI t))] dX6_find_77 0 rfl rfl rfl (Nat.le_of_ble_eq_true rfl) rfl ?_
      refine aw_goto 39 dX6_find_80 (by decide) ?_
      exact ih (p + 1) C1 (by omega) hF1
    | ok pr =>
      rw [e] at hri
      obtain ⟨hi, -⟩ := pItem_ok (fun i hi => (hS.2.2.2 i hi).2) e
      obtain ⟨hb, hlen⟩ := it_b hi (m := 0) (by decide)
      have hla : ∀ C1, TR C1 → (RFm C C1 ∧ mI C1 0 25 = -1 ∧ RSr pr.2 C1 ∧ (rK pr.2 0 < 14 → mI C1 0 26 = nI pr.2.1)) → Sp (fX6_laysAll (d - 1)) [.ref 0, .int 12, .int (nI 0)] C1 (fun r D => r = some (.int (nI (itR 0 (rKap pr.2) (rZ pr.2) (rW pr.2) (rV pr.2) 0).1.length)) ∧ ∃ T, LR C1 12 (itR 0 (rKap pr.2) (rZ pr.2) (rW pr.2) (rV pr.2) 0).2 [] T ∧ D = emM T 0 13 8 (itR 0 (rKap pr.2) (rZ pr.2) (rW pr.2) (rV pr.2) 0).1) := fun C1 h1 h => it_la (by omega) h1 h.2.2.1 hi (by decide)
      have hh := fHit_k l e
      generalize itR 0 (rKap pr.2) (rZ pr.2) (rW pr.2) (rV pr.2) 0 = it at hb hlen hla hh
      have hun0 : ∀ T, FRr M0 (emM T 0 13 8 it.1) → (it.1 = l → Sp (fX6_unlike (d - 1)) [.ref 0] (emM T 0 13 8 it.1) (dt (some (.int (-1))) (emM T 0 13 8 it.1))) ∧ (¬ it.1 = l → ∃ k, k < 2000 ∧ Sp (fX6_unlike (d - 1)) [.ref 0] (emM T 0 13 8 it.1) (dt (some (.int (nI k))) (emM T 0 13 8 it.1))) := by
        intro T hF2
        exact sp_unl (hF2.1.TR hS.1) (emM_f _ _ _ _ _) (by rw [hF2.2.2.2.2.2.1 15 (by decide) (by decide) (by decide) (by decide) (by decide) (by decide)]; exact h15) hlen hll (fun i hi => emM_c _ _ hi (by decide)) (fun i hi => by rw [hF2.2.1 9 (by decide)]; exact h9 i hi)
      by_cases hq : it.1 = l
      · rw [fnd_t n (hh.trans (decide_eq_true hq))]
        have hun : ∀ T, FRr M0 (emM T 0 13 8 it.1) → Sp (fX6_unlike (d - 1)) [.ref 0] (emM T 0 13 8 it.1) (dt (some (.int (-1))) (emM T 0 13 8 it.1)) ∧ True := fun T h => ⟨(hun0 T h).1 hq, trivial⟩
        refine aw_iload_n dX6_find_39 0 rfl ?_
        refine aw_aload_n dX6_find_40 1 rfl ?_
        refine aw_getI dX6_find_41 fl_X6_354 ((hC.1.TR hS.1).s 0 (by decide)) ((hC.1.TR hS.1).n 0 (by decide)) ?_
        refine aw_topE ((hC.2.2.2.2.2.1 6 (by decide) (by decide) (by decide) (by decide) (by decide) (by decide)).trans hl) ?_
        refine aw_icmp_geN p L 83 dX6_find_44 (by decide) rfl rfl (by omega) (by omega) (fun c1 => absurd c1 (by omega)) (fun c1 => ?_)
        refine aw_aload_n dX6_find_47 1 rfl ?_
        refine aw_iload_n dX6_find_48 0 rfl ?_
        refine aw_callVx [.int (nI p)] [] hri dX6_find_49 ml_X6_372 im_X6_readsItem ((hC.1.TR hS.1).s 0 (by decide)) ((hC.1.TR hS.1).n 0 (by decide)) rfl rfl (dl1 (d := d) (by omega)) rfl rfl (Nat.le_of_ble_eq_true rfl) rfl rfl (Nat.zero_le _) (Nat.zero_le _) (fun r C1 hC1 => ?_)
        obtain ⟨rfl, hC1⟩ := hC1
        refine aw_cons ?_
        have hF1 : FRr M0 C1 := hC.rd hC1.1
        refine aw_pop dX6_find_52 rfl ?_
        refine aw_aload_n dX6_find_53 1 rfl ?_
        refine aw_getI dX6_find_54 fl_X6_283 ((hF1.1.TR hS.1).s 0 (by decide)) ((hF1.1.TR hS.1).n 0 (by decide)) ?_
        refine aw_topE hC1.2.1 ?_
        refine aw_if_ge 77 dX6_find_57 (by decide) (fun c2 => absurd c2 (by decide)) (fun c2 => ?_)
        refine aw_aload_n dX6_find_60 1 rfl ?_
        refine aw_bipush (v := 12) dX6_find_61 (by decide) ?_
        refine aw_iconst (v := 0) dX6_find_63 (by decide) ?_
        refine aw_callVx [.int 12, .int 0] [] (hla C1 (hF1.1.TR hS.1) hC1) dX6_find_64 ml_X6_360 im_X6_laysAll ((hF1.1.TR hS.1).s 0 (by decide)) ((hF1.1.TR hS.1).n 0 (by decide)) rfl rfl (dl1 (d := d) (by omega)) rfl rfl (Nat.le_of_ble_eq_true rfl) rfl rfl (Nat.zero_le _) (Nat.zero_le _) (fun r D1 hD1 => ?_)
        obtain ⟨rfl, T, hT1, rfl⟩ := hD1
        refine aw_cons ?_
        have hF2 := hF1.la hT1 it.1
        refine aw_pop dX6_find_67 rfl ?_
        refine aw_aload_n dX6_find_68 1 rfl ?_
        refine aw_callVi [] [] (hun T hF2).1 dX6_find_69 ml_X6_382 im_X6_unlike ((hF2.1.TR hS.1).s 0 (by decide)) ((hF2.1.TR hS.1).n 0 (by decide)) rfl rfl (dl1 (d := d) (by omega)) rfl rfl (Nat.le_of_ble_eq_true rfl) rfl rfl (Nat.zero_le _) (Nat.zero_le _) ?_
        refine aw_if_ge 77 dX6_find_72 (by decide) (fun c3 => absurd c3 (by decide)) (fun c3 => ?_)
        refine aw_iload_n dX6_find_75 0 rfl ?_
        refine aw_iret dX6_find_76 rfl (Nat.zero_le _) (Nat.zero_le _) ?_
        exact ⟨rfl, hF2⟩
      · rw [fnd_f n (hh.trans (decide_eq_false hq))]
        have hun : ∀ T, FRr M0 (emM T 0 13 8 it.1) → ∃ k, k < 2000 ∧ Sp (fX6_unlike (d - 1)) [.ref 0] (emM T 0 13 8 it.1) (dt (some (.int (nI k))) (emM T 0 13 8 it.1)) := fun T h => (hun0 T h).2 hq
        refine aw_iload_n dX6_find_39 0 rfl ?_
        refine aw_aload_n dX6_find_40 1 rfl ?_
        refine aw_getI dX6_find_41 fl_X6_354 ((hC.1.TR hS.1).s 0 (by decide)) ((hC.1.TR hS.1).n 0 (by decide)) ?_
        refine aw_topE ((hC.2.2.2.2.2.1 6 (by decide) (by decide) (by decide) (by decide) (by decide) (by decide)).trans hl) ?_
        refine aw_icmp_geN p L 83 dX6_find_44 (by decide) rfl rfl (by omega) (by omega) (fun c1 => absurd c1 (by omega)) (fun c1 => ?_)
        refine aw_aload_n dX6_find_47 1 rfl ?_
        refine aw_iload_n dX6_find_48 0 rfl ?_
        refine aw_callVx [.int (nI p)] [] hri dX6_find_49 ml_X6_372 im_X6_readsItem ((hC.1.TR hS.1).s 0 (by decide)) ((hC.1.TR hS.1).n 0 (by decide)) rfl rfl (dl1 (d := d) (by omega)) rfl rfl (Nat.le_of_ble_eq_true rfl) rfl rfl (Nat.zero_le _) (Nat.zero_le _) (fun r C1 hC1 => ?_)
        obtain ⟨rfl, hC1⟩ := hC1
        refine aw_cons ?_
        have hF1 : FRr M0 C1 := hC.rd hC1.1
        refine aw_pop dX6_find_52 rfl ?_
        refine aw_aload_n dX6_find_53 1 rfl ?_
        refine aw_getI dX6_find_54 fl_X6_283 ((hF1.1.TR hS.1).s 0 (by decide)) ((hF1.1.TR hS.1).n 0 (by decide)) ?_
        refine aw_topE hC1.2.1 ?_
        refine aw_if_ge 77 dX6_find_57 (by decide) (fun c2 => absurd c2 (by decide)) (fun c2 => ?_)
        refine aw_aload_n dX6_find_60 1 rfl ?_
        refine aw_bipush (v := 12) dX6_find_61 (by decide) ?_
        refine aw_iconst (v := 0) dX6_find_63 (by decide) ?_
        refine aw_callVx [.int 12, .int 0] [] (hla C1 (hF1.1.TR hS.1) hC1) dX6_find_64 ml_X6_360 im_X6_laysAll ((hF1.1.TR hS.1).s 0 (by decide)) ((hF1.1.TR hS.1).n 0 (by decide)) rfl rfl (dl1 (d := d) (by omega)) rfl rfl (Nat.le_of_ble_eq_true rfl) rfl rfl (Nat.zero_le _) (Nat.zero_le _) (fun r D1 hD1 => ?_)
        obtain ⟨rfl, T, hT1, rfl⟩ := hD1
        refine aw_cons ?_
        have hF2 := hF1.la hT1 it.1
        refine aw_pop dX6_find_67 rfl ?_
        refine aw_aload_n dX6_find_68 1 rfl ?_
        refine aw_callVi [] [] (hun T hF2).choose_spec.2 dX6_find_69 ml_X6_382 im_X6_unlike ((hF2.1.TR hS.1).s 0 (by decide)) ((hF2.1.TR hS.1).n 0 (by decide)) rfl rfl (dl1 (d := d) (by omega)) rfl rfl (Nat.le_of_ble_eq_true rfl) rfl rfl (Nat.zero_le _) (Nat.zero_le _) ?_
        refine aw_if_ge 77 dX6_find_72 (by decide) (fun c3 => ?_) (fun c3 => absurd (Int32.not_lt.mp (nI_nn (by have := (hun T hF2).choose_spec.1; omega))) c3)
        refine aw_iincN p 1 [(2, .int (nI (p + 1))), (0, .ref 0), (1, .int (nI t))] dX6_find_77 0 rfl rfl rfl (Nat.le_of_ble_eq_true rfl) rfl ?_
        refine aw_goto 39 dX6_find_80 (by decide) ?_
        exact ih (p + 1) (emM T 0 13 8 it.1) (by omega) hF2
theorem sp_X6_find_b {d : Nat} (hd : 60 ≤ d) {M : xM} (x1 : Int32) (hT : TR M) (hs : sX6_isThing x1.toInt64 = false) : Sp (fX6_find d) [.ref 0, .int x1] M (dt (some (.int (-1))) M) := by
  refine Sp.of pn_X6 (Nat.le_of_ble_eq_true rfl) (fun h => Bool.noConfusion h) ?_
  refine aw_iload_n dX6_find_0 1 rfl ?_
  refine aw_i2l dX6_find_1 ?_
  refine aw_callSi [.long (Int32.toInt64 x1)] [] (sp_X6_isThing (d := d - 1) (by omega) (Int32.toInt64 x1) ) dX6_find_2 ml_X6_159 sm_X6_isThing rfl (dl1 (d := d) (by omega)) rfl rfl (Nat.le_of_ble_eq_true rfl) rfl rfl (Nat.zero_le _) (Nat.zero_le _) ?_
  refine aw_if_ne 10 dX6_find_5 (by decide) (fun c1 => absurd (bz_0.mpr hs) c1) (fun c1 => ?_)
  refine aw_iconst (v := -1) dX6_find_8 (by decide) ?_
  refine aw_iret dX6_find_9 rfl (Nat.zero_le _) (Nat.zero_le _) ?_
  exact ⟨rfl, rfl⟩
theorem sp_X6_find_e {d : Nat} (hd : 60 ≤ d) {M : xM} (t : Nat) (hT : TR M) (ht : t < 12) (hs : sX6_isThing (lN t) = true) (hk : mI M 1 t = -1) : Sp (fX6_find d) [.ref 0, .int (nI t)] M (dt (some (.int (-5))) M) := by
  refine Sp.of pn_X6 (Nat.le_of_ble_eq_true rfl) (fun h => Bool.noConfusion h) ?_
  refine aw_iload_n dX6_find_0 1 rfl ?_
  refine aw_i2lN t dX6_find_1 rfl (by omega) ?_
  refine aw_callSi [.long (lN t)] [] (sp_X6_isThing (d := d - 1) (by omega) (lN t) ) dX6_find_2 ml_X6_159 sm_X6_isThing rfl (dl1 (d := d) (by omega)) rfl rfl (Nat.le_of_ble_eq_true rfl) rfl rfl (Nat.zero_le _) (Nat.zero_le _) ?_
  refine aw_if_ne 10 dX6_find_5 (by decide) (fun c1 => ?_) (fun c1 => absurd c1 (bz_n0.mpr hs))
  refine aw_aload_n dX6_find_10 0 rfl ?_
  refine aw_getR (b := 1) dX6_find_11 fl_X6_7 rfl (hT.s 0 (by decide)) (hT.n 0 (by decide)) (hT.r 0) ?_
  refine aw_iload_n dX6_find_14 1 rfl ?_
  refine aw_ialdN t dX6_find_15 (hT.s 1 (by decide)) (hT.n 1 (by decide)) rfl (by omega) (by first | decide | omega) ?_
  refine aw_topE hk ?_
  refine aw_if_ge 22 dX6_find_16 (by decide) (fun c2 => absurd c2 (by decide)) (fun c2 => ?_)
  refine aw_bipush (v := -5) dX6_find_19 (by decide) ?_
  refine aw_iret dX6_find_21 rfl (Nat.zero_le _) (Nat.zero_le _) ?_
  exact ⟨rfl, rfl⟩
theorem sp_X6_find_k {d : Nat} (hd : 60 ≤ d) {M : xM} {P Q : xM → Prop} {B : Nat → Nat} {L t k : Nat} {x : Int32} {l : List Int32} (hT : TR M) (ht : t < 12) (hs : sX6_isThing (lN t) = true) (hk : mI M 1 t = nI k) (hk2 : k < 16) (bl : L ≤ 200) (hla : Sp (fX6_laysAll (d - 1)) [.ref 0, .int (nI t), .int (nI 0)] M (fun r A => r = some (.int x) ∧ P A)) (hTA : ∀ A, P A → TR A) (hho : ∀ A, P A → Sp (fX6_holds (d - 1)) [.ref 0] A (fun r C => r = none ∧ Q C)) (hTB : ∀ C, Q C → TR C ∧ mI C 0 6 = nI L) (hQ : ∀ C, Q C → RfS (ftM C L) B L ∧ LenR (ftM C L) ∧ mI (ftM C L) 0 6 = nI L ∧ mI (ftM C L) 0 15 = nI l.length ∧ ∀ i, i < l.length → mI (ftM C L) 9 i = l.getD i 0) (hll : l.length ≤ 1464) : Sp (fX6_find d) [.ref 0, .int (nI t)] M (fun r D => r = some (.int (fndB B L l L 0)) ∧ ∃ C, Q C ∧ FRr (ftM C L) D) := by
  refine Sp.of pn_X6 (Nat.le_of_ble_eq_true rfl) (fun h => Bool.noConfusion h) ?_
  refine aw_iload_n dX6_find_0 1 rfl ?_
  refine aw_i2lN t dX6_find_1 rfl (by omega) ?_
  refine aw_callSi [.long (lN t)] [] (sp_X6_isThing (d := d - 1) (by omega) (lN t) ) dX6_find_2 ml_X6_159 sm_X6_isThing rfl (dl1 (d := d) (by omega)) rfl rfl (Nat.le_of_ble_eq_true rfl) rfl rfl (Nat.zero_le _) (Nat.zero_le _) ?_
  refine aw_if_ne 10 dX6_find_5 (by decide) (fun c1 => ?_) (fun c1 => absurd c1 (bz_n0.mpr hs))
  refine aw_aload_n dX6_find_10 0 rfl ?_
  refine aw_getR (b := 1) dX6_find_11 fl_X6_7 rfl (hT.s 0 (by decide)) (hT.n 0 (by decide)) (hT.r 0) ?_
  refine aw_iload_n dX6_find_14 1 rfl ?_
  refine aw_ialdN t dX6_find_15 (hT.s 1 (by decide)) (hT.n 1 (by decide)) rfl (by omega) (by first | decide | omega) ?_
  refine aw_topE hk ?_
  refine aw_if_ge 22 dX6_find_16 (by decide) (fun c2 => ?_) (fun c2 => absurd (Int32.not_lt.mp (nI_nn (by omega))) c2)
  refine aw_aload_n dX6_find_22 0 rfl ?_
  refine aw_iload_n dX6_find_23 1 rfl ?_
  refine aw_iconst (v := 0) dX6_find_24 (by decide) ?_
  refine aw_callVx [.int (nI t), .int 0] [] hla dX6_find_25 ml_X6_360 im_X6_laysAll (hT.s 0 (by decide)) (hT.n 0 (by decide)) rfl rfl (dl1 (d := d) (by omega)) rfl rfl (Nat.le_of_ble_eq_true rfl) rfl rfl (Nat.zero_le _) (Nat.zero_le _) (fun r A1 hA1 => ?_)
  obtain ⟨rfl, hA1⟩ := hA1
  refine aw_cons ?_
  refine aw_pop dX6_find_28 rfl ?_
  refine aw_aload_n dX6_find_29 0 rfl ?_
  refine aw_callVx [] [] (hho A1 hA1) dX6_find_30 ml_X6_379 im_X6_holds ((hTA A1 hA1).s 0 (by decide)) ((hTA A1 hA1).n 0 (by decide)) rfl rfl (dl1 (d := d) (by omega)) rfl rfl (Nat.le_of_ble_eq_true rfl) rfl rfl (Nat.zero_le _) (Nat.zero_le _) (fun r B1 hB1 => ?_)
  obtain ⟨rfl, hB1⟩ := hB1
  refine aw_nil ?_
  refine aw_aload_n dX6_find_33 0 rfl ?_
  refine aw_callVv [] [] (sp_ft (d := d - 1) (hTB B1 hB1).1 (hTB B1 hB1).2 bl) dX6_find_34 ml_X6_369 im_X6_fromTape ((hTB B1 hB1).1.s 0 (by decide)) ((hTB B1 hB1).1.n 0 (by decide)) rfl rfl (dl1 (d := d) (by omega)) rfl rfl (Nat.le_of_ble_eq_true rfl) rfl rfl (Nat.zero_le _) (Nat.zero_le _) ?_
  refine aw_iconst (v := 0) dX6_find_37 (by decide) ?_
  refine aw_istore_n [(2, .int 0), (0, .ref 0), (1, .int (nI t))] dX6_find_38 (Nat.le_of_ble_eq_true rfl) rfl ?_
  obtain ⟨q1, q2, q3, q4, q5⟩ := hQ B1 hB1
  exact aw_post (fun r D h => ⟨h.1, B1, hB1, h.2⟩) (lp_fiR hd q1 q3 q4 q5 hll L 0 _ (by omega) (FRr.rf q2))
