-- LAID
theorem sp_X5_laid_bad {d : Nat} (hd : 60 ≤ d) {M : xM} (x1 x2 : Int32) (hT : TC M) (hb : sX5_isMode x2 = false) : Sp (fX5_laid d) [.ref 0, .int x1, .int x2] M (dt (some (.int (-1))) M) := by
  refine Sp.of pn_X5 (Nat.le_of_ble_eq_true rfl) (fun h => Bool.noConfusion h) ?_
  refine aw_iload_n dX5_laid_0 2 rfl ?_
  refine aw_callSi [.int x2] [] (sp_X5_isMode (d := d - 1) (by omega) x2 ) dX5_laid_1 ml_X5_215 sm_X5_isMode rfl (dl1 (d := d) (by omega)) rfl rfl (Nat.le_of_ble_eq_true rfl) rfl rfl (Nat.zero_le _) (Nat.zero_le _) ?_
  refine aw_if_ne 9 dX5_laid_4 (by decide) (fun c1 => absurd (bz_0.mpr hb) c1) (fun c1 => ?_)
  refine aw_iconst (v := -1) dX5_laid_7 (by decide) ?_
  refine aw_iret dX5_laid_8 rfl (Nat.zero_le _) (Nat.zero_le _) ?_
  exact ⟨rfl, rfl⟩
theorem sp_X5_laid_e {d : Nat} (hd : 60 ≤ d) {M : xM} (x1 x2 : Int32) (hT : TC M) (hb : sX5_isMode x2 = true) (he : ¬ sX5_slotError M x1 = 0) : Sp (fX5_laid d) [.ref 0, .int x1, .int x2] M (dt (some (.int (sX5_slotError M x1))) M) := by
  refine Sp.of pn_X5 (Nat.le_of_ble_eq_true rfl) (fun h => Bool.noConfusion h) ?_
  refine aw_iload_n dX5_laid_0 2 rfl ?_
  refine aw_callSi [.int x2] [] (sp_X5_isMode (d := d - 1) (by omega) x2 ) dX5_laid_1 ml_X5_215 sm_X5_isMode rfl (dl1 (d := d) (by omega)) rfl rfl (Nat.le_of_ble_eq_true rfl) rfl rfl (Nat.zero_le _) (Nat.zero_le _) ?_
  refine aw_if_ne 9 dX5_laid_4 (by decide) (fun c1 => ?_) (fun c1 => absurd c1 (bz_n0.mpr hb))
  refine aw_aload_n dX5_laid_9 0 rfl ?_
  refine aw_iload_n dX5_laid_10 1 rfl ?_
  refine aw_callVi [.int x1] [] (sp_X5_slotError (d := d - 1) (by omega) x1 hT) dX5_laid_11 ml_X5_94 im_X5_slotError (hT.s 0 (by decide)) (hT.n 0 (by decide)) rfl rfl (dl1 (d := d) (by omega)) rfl rfl (Nat.le_of_ble_eq_true rfl) rfl rfl (Nat.zero_le _) (Nat.zero_le _) ?_
  refine aw_istore_n [(3, .int (sX5_slotError M x1)), (0, .ref 0), (1, .int x1), (2, .int x2)] dX5_laid_14 (Nat.le_of_ble_eq_true rfl) rfl ?_
  refine aw_iload_n dX5_laid_15 0 rfl ?_
  refine aw_if_eq 21 dX5_laid_16 (by decide) (fun c2 => absurd c2 he) (fun c2 => ?_)
  refine aw_iload_n dX5_laid_19 0 rfl ?_
  refine aw_iret dX5_laid_20 rfl (Nat.zero_le _) (Nat.zero_le _) ?_
  exact ⟨rfl, rfl⟩
theorem sp_X5_laid_ok {d : Nat} (hd : 60 ≤ d) {M : xM} (t m : Nat) {K Z : Nat → Nat} {W : Nat → Nat → Nat} {V : Nat → Nat → Int64} (hT : TC M) (hb : sX5_isMode (nI m) = true) (he : sX5_slotError M (nI t) = 0) (hD : WrR M 46 1 4 K Z W V) (hm : m < 3) (ht : t < 12) (hk : K t < 16) (hk15 : K t = 15 → ∃ c, c < 2 ^ 63 ∧ V t 0 = lN c) : Sp (fX5_laid d) [.ref 0, .int (nI t), .int (nI m)] M (dt (some (.int (nI (itR m K Z W V t).1.length))) (emM (nuM (wrM M 46 4 m) 46 (itR m K Z W V t).2) 4 1 (4 + 1) (itR m K Z W V t).1)) := by
  refine Sp.of pn_X5 (Nat.le_of_ble_eq_true rfl) (fun h => Bool.noConfusion h) ?_
  have hT2 : sT M (emM (nuM (wrM M 46 4 m) 46 (itR m K Z W V t).2) 4 1 (4 + 1) (itR m K Z W V t).1) := ⟨rfl, rfl, rfl⟩
  refine aw_iload_n dX5_laid_0 2 rfl ?_
  refine aw_callSi [.int (nI m)] [] (sp_X5_isMode (d := d - 1) (by omega) (nI m) ) dX5_laid_1 ml_X5_215 sm_X5_isMode rfl (dl1 (d := d) (by omega)) rfl rfl (Nat.le_of_ble_eq_true rfl) rfl rfl (Nat.zero_le _) (Nat.zero_le _) ?_
  refine aw_if_ne 9 dX5_laid_4 (by decide) (fun c1 => ?_) (fun c1 => absurd c1 (bz_n0.mpr hb))
  refine aw_aload_n dX5_laid_9 0 rfl ?_
  refine aw_iload_n dX5_laid_10 1 rfl ?_
  refine aw_callVi [.int (nI t)] [] (sp_X5_slotError (d := d - 1) (by omega) (nI t) hT) dX5_laid_11 ml_X5_94 im_X5_slotError (hT.s 0 (by decide)) (hT.n 0 (by decide)) rfl rfl (dl1 (d := d) (by omega)) rfl rfl (Nat.le_of_ble_eq_true rfl) rfl rfl (Nat.zero_le _) (Nat.zero_le _) ?_
  refine aw_topE he ?_
  refine aw_istore_n [(3, .int 0), (0, .ref 0), (1, .int (nI t)), (2, .int (nI m))] dX5_laid_14 (Nat.le_of_ble_eq_true rfl) rfl ?_
  refine aw_iload_n dX5_laid_15 0 rfl ?_
  refine aw_if_eq 21 dX5_laid_16 (by decide) (fun c2 => ?_) (fun c2 => absurd rfl c2)
  refine aw_aload_n dX5_laid_21 1 rfl ?_
  refine aw_getR (b := 46) dX5_laid_22 fl_X5_44 rfl (hT.s 0 (by decide)) (hT.n 0 (by decide)) (hT.r 0 5 (by decide) (by decide)) ?_
  refine aw_iload_n dX5_laid_25 2 rfl ?_
  refine aw_iload_n dX5_laid_26 3 rfl ?_
  refine aw_callVv [.int (nI t), .int (nI m)] [] (sp_write (d := d - 1) (by omega) hD hm ht hk hk15) dX5_laid_27 ml_X5_219 im_X4_write (hT.s 46 (by decide)) (hT.n 46 (by decide)) rfl rfl (dl1 (d := d) (by omega)) rfl rfl (Nat.le_of_ble_eq_true rfl) rfl rfl (Nat.zero_le _) (Nat.zero_le _) ?_
  refine aw_aload_n dX5_laid_30 1 rfl ?_
  refine aw_getR (b := 4) dX5_laid_31 fl_X5_24 rfl ((hT2.TC hT).s 0 (by decide)) ((hT2.TC hT).n 0 (by decide)) ((hT2.TC hT).r 0 2 (by decide) (by decide)) ?_
  refine aw_getI dX5_laid_34 fl_X5_226 ((hT2.TC hT).s 4 (by decide)) ((hT2.TC hT).n 4 (by decide)) ?_
  refine aw_topE (emM_f _ 4 1 5 _) ?_
  refine aw_iret dX5_laid_37 rfl (Nat.zero_le _) (Nat.zero_le _) ?_
  exact ⟨rfl, rfl⟩
