-- LAID: the reference
theorem sp_X6_laid_ok {d : Nat} (hd : 60 ≤ d) {M : xM} (t m : Nat) {K Z : Nat → Nat} {W : Nat → Nat → Nat} {V : Nat → Nat → Int64} (hT : TR M) (ht : t < 12) (hm : m < 3) (hs : sX6_isThing (lN t) = true) (hb : sX6_isIn (lN m) 0 2 = true) (hk : K t < 16) (hkt : mI M 1 t = nI (K t)) (hla : Sp (fX6_laysAll (d - 1)) [.ref 0, .int (nI t), .int (nI m)] M (fun r A => r = some (.int (nI (itR m K Z W V t).1.length)) ∧ ∃ R, LR M 0 (itR m K Z W V t).2 [] R ∧ A = emM R 0 13 8 (itR m K Z W V t).1)) : Sp (fX6_laid d) [.ref 0, .int (nI t), .int (nI m)] M (fun r A => r = some (.int (nI (itR m K Z W V t).1.length)) ∧ ∃ R, LR M 0 (itR m K Z W V t).2 [] R ∧ A = emM R 0 13 8 (itR m K Z W V t).1) := by
  refine Sp.of pn_X6 (Nat.le_of_ble_eq_true rfl) (fun h => Bool.noConfusion h) ?_
  refine aw_iload_n dX6_laid_0 1 rfl ?_
  refine aw_i2lN t dX6_laid_1 rfl (by omega) ?_
  refine aw_callSi [.long (lN t)] [] (sp_X6_isThing (d := d - 1) (by omega) (lN t) ) dX6_laid_2 ml_X6_159 sm_X6_isThing rfl (dl1 (d := d) (by omega)) rfl rfl (Nat.le_of_ble_eq_true rfl) rfl rfl (Nat.zero_le _) (Nat.zero_le _) ?_
  refine aw_if_eq 20 dX6_laid_5 (by decide) (fun c1 => absurd c1 (bz_n0.mpr hs)) (fun c1 => ?_)
  refine aw_iload_n dX6_laid_8 2 rfl ?_
  refine aw_i2lN m dX6_laid_9 rfl (by omega) ?_
  refine aw_lconst (v := 0) dX6_laid_10 (by decide) ?_
  refine aw_ldc2 dX6_laid_11 kc_X6_304 ?_
  refine aw_callSi [.long (lN m), .long 0, .long 2] [] (sp_X6_isIn (d := d - 1) (by omega) (lN m) 0 2 ) dX6_laid_14 ml_X6_73 sm_X6_isIn rfl (dl1 (d := d) (by omega)) rfl rfl (Nat.le_of_ble_eq_true rfl) rfl rfl (Nat.zero_le _) (Nat.zero_le _) ?_
  refine aw_if_ne 22 dX6_laid_17 (by decide) (fun c2 => ?_) (fun c2 => absurd c2 (bz_n0.mpr hb))
  refine aw_aload_n dX6_laid_22 0 rfl ?_
  refine aw_getR (b := 1) dX6_laid_23 fl_X6_7 rfl (hT.s 0 (by decide)) (hT.n 0 (by decide)) (hT.r 0) ?_
  refine aw_iload_n dX6_laid_26 1 rfl ?_
  refine aw_ialdN t dX6_laid_27 (hT.s 1 (by decide)) (hT.n 1 (by decide)) rfl (by omega) (by first | decide | omega) ?_
  refine aw_topE hkt ?_
  refine aw_if_ge 36 dX6_laid_28 (by decide) (fun c3 => ?_) (fun c3 => absurd (Int32.not_lt.mp (nI_nn (by omega))) c3)
  refine aw_aload_n dX6_laid_36 0 rfl ?_
  refine aw_iload_n dX6_laid_37 1 rfl ?_
  refine aw_iload_n dX6_laid_38 2 rfl ?_
  refine aw_callVx [.int (nI t), .int (nI m)] [] hla dX6_laid_39 ml_X6_360 im_X6_laysAll (hT.s 0 (by decide)) (hT.n 0 (by decide)) rfl rfl (dl1 (d := d) (by omega)) rfl rfl (Nat.le_of_ble_eq_true rfl) rfl rfl (Nat.zero_le _) (Nat.zero_le _) (fun r M1 hq => ?_)
  obtain ⟨rfl, hq⟩ := hq
  refine aw_cons ?_
  refine aw_iret dX6_laid_42 rfl (Nat.zero_le _) (Nat.zero_le _) ?_
  exact ⟨rfl, hq⟩
theorem sp_X6_laid_bad1 {d : Nat} (hd : 60 ≤ d) {M : xM} (x1 x2 : Int32) (hT : TR M) (hs : sX6_isThing x1.toInt64 = false) : Sp (fX6_laid d) [.ref 0, .int x1, .int x2] M (dt (some (.int (-1))) M) := by
  refine Sp.of pn_X6 (Nat.le_of_ble_eq_true rfl) (fun h => Bool.noConfusion h) ?_
  refine aw_iload_n dX6_laid_0 1 rfl ?_
  refine aw_i2l dX6_laid_1 ?_
  refine aw_callSi [.long (Int32.toInt64 x1)] [] (sp_X6_isThing (d := d - 1) (by omega) (Int32.toInt64 x1) ) dX6_laid_2 ml_X6_159 sm_X6_isThing rfl (dl1 (d := d) (by omega)) rfl rfl (Nat.le_of_ble_eq_true rfl) rfl rfl (Nat.zero_le _) (Nat.zero_le _) ?_
  refine aw_if_eq 20 dX6_laid_5 (by decide) (fun c1 => ?_) (fun c1 => absurd (bz_0.mpr hs) c1)
  refine aw_iconst (v := -1) dX6_laid_20 (by decide) ?_
  refine aw_iret dX6_laid_21 rfl (Nat.zero_le _) (Nat.zero_le _) ?_
  exact ⟨rfl, rfl⟩
theorem sp_X6_laid_bad2 {d : Nat} (hd : 60 ≤ d) {M : xM} (x1 x2 : Int32) (hT : TR M) (hs : sX6_isThing x1.toInt64 = true) (hb : sX6_isIn x2.toInt64 0 2 = false) : Sp (fX6_laid d) [.ref 0, .int x1, .int x2] M (dt (some (.int (-1))) M) := by
  refine Sp.of pn_X6 (Nat.le_of_ble_eq_true rfl) (fun h => Bool.noConfusion h) ?_
  refine aw_iload_n dX6_laid_0 1 rfl ?_
  refine aw_i2l dX6_laid_1 ?_
  refine aw_callSi [.long (Int32.toInt64 x1)] [] (sp_X6_isThing (d := d - 1) (by omega) (Int32.toInt64 x1) ) dX6_laid_2 ml_X6_159 sm_X6_isThing rfl (dl1 (d := d) (by omega)) rfl rfl (Nat.le_of_ble_eq_true rfl) rfl rfl (Nat.zero_le _) (Nat.zero_le _) ?_
  refine aw_if_eq 20 dX6_laid_5 (by decide) (fun c1 => absurd c1 (bz_n0.mpr hs)) (fun c1 => ?_)
  refine aw_iload_n dX6_laid_8 2 rfl ?_
  refine aw_i2l dX6_laid_9 ?_
  refine aw_lconst (v := 0) dX6_laid_10 (by decide) ?_
  refine aw_ldc2 dX6_laid_11 kc_X6_304 ?_
  refine aw_callSi [.long (Int32.toInt64 x2), .long 0, .long 2] [] (sp_X6_isIn (d := d - 1) (by omega) (Int32.toInt64 x2) 0 2 ) dX6_laid_14 ml_X6_73 sm_X6_isIn rfl (dl1 (d := d) (by omega)) rfl rfl (Nat.le_of_ble_eq_true rfl) rfl rfl (Nat.zero_le _) (Nat.zero_le _) ?_
  refine aw_if_ne 22 dX6_laid_17 (by decide) (fun c2 => absurd (bz_0.mpr hb) c2) (fun c2 => ?_)
  refine aw_iconst (v := -1) dX6_laid_20 (by decide) ?_
  refine aw_iret dX6_laid_21 rfl (Nat.zero_le _) (Nat.zero_le _) ?_
  exact ⟨rfl, rfl⟩
theorem sp_X6_laid_e {d : Nat} (hd : 60 ≤ d) {M : xM} (t : Nat) (x2 : Int32) (hT : TR M) (ht : t < 12) (hs : sX6_isThing (lN t) = true) (hb : sX6_isIn x2.toInt64 0 2 = true) (hkt : mI M 1 t = -1) : Sp (fX6_laid d) [.ref 0, .int (nI t), .int x2] M (dt (some (.int (-5))) M) := by
  refine Sp.of pn_X6 (Nat.le_of_ble_eq_true rfl) (fun h => Bool.noConfusion h) ?_
  refine aw_iload_n dX6_laid_0 1 rfl ?_
  refine aw_i2lN t dX6_laid_1 rfl (by omega) ?_
  refine aw_callSi [.long (lN t)] [] (sp_X6_isThing (d := d - 1) (by omega) (lN t) ) dX6_laid_2 ml_X6_159 sm_X6_isThing rfl (dl1 (d := d) (by omega)) rfl rfl (Nat.le_of_ble_eq_true rfl) rfl rfl (Nat.zero_le _) (Nat.zero_le _) ?_
  refine aw_if_eq 20 dX6_laid_5 (by decide) (fun c1 => absurd c1 (bz_n0.mpr hs)) (fun c1 => ?_)
  refine aw_iload_n dX6_laid_8 2 rfl ?_
  refine aw_i2l dX6_laid_9 ?_
  refine aw_lconst (v := 0) dX6_laid_10 (by decide) ?_
  refine aw_ldc2 dX6_laid_11 kc_X6_304 ?_
  refine aw_callSi [.long (Int32.toInt64 x2), .long 0, .long 2] [] (sp_X6_isIn (d := d - 1) (by omega) (Int32.toInt64 x2) 0 2 ) dX6_laid_14 ml_X6_73 sm_X6_isIn rfl (dl1 (d := d) (by omega)) rfl rfl (Nat.le_of_ble_eq_true rfl) rfl rfl (Nat.zero_le _) (Nat.zero_le _) ?_
  refine aw_if_ne 22 dX6_laid_17 (by decide) (fun c2 => ?_) (fun c2 => absurd c2 (bz_n0.mpr hb))
  refine aw_aload_n dX6_laid_22 0 rfl ?_
  refine aw_getR (b := 1) dX6_laid_23 fl_X6_7 rfl (hT.s 0 (by decide)) (hT.n 0 (by decide)) (hT.r 0) ?_
  refine aw_iload_n dX6_laid_26 1 rfl ?_
  refine aw_ialdN t dX6_laid_27 (hT.s 1 (by decide)) (hT.n 1 (by decide)) rfl (by omega) (by first | decide | omega) ?_
  refine aw_topE hkt ?_
  refine aw_if_ge 36 dX6_laid_28 (by decide) (fun c3 => absurd c3 (by decide)) (fun c3 => ?_)
  refine aw_bipush (v := -5) dX6_laid_31 (by decide) ?_
  refine aw_goto 42 dX6_laid_33 (by decide) ?_
  refine aw_iret dX6_laid_42 rfl (Nat.zero_le _) (Nat.zero_le _) ?_
  exact ⟨rfl, rfl⟩
