-- THE REFERENCE READS A CELL
def sX6_mayStand (x1 : Int32) (x2 : Int32) : Bool := (if x2 = 11 then (if x2 < 0 then (if (bz (sX6_isRowTag x2)) = 0 then false else true) else (if x2 < 12 then true else (if (bz (sX6_isRowTag x2)) = 0 then false else true))) else (if x1 = 12 then (if x2 < 0 then (if (bz (sX6_isRowTag x2)) = 0 then false else true) else (if x2 < 12 then true else (if (bz (sX6_isRowTag x2)) = 0 then false else true))) else (if x1 = 8 then (if x2 = 4 then true else false) else (if x1 = 9 then (if x2 = 8 then true else false) else (if x1 = 10 then (if x2 = 9 then true else false) else (if x1 = 11 then (if x2 = 9 then true else false) else (if x2 = 10 then true else (if x2 = 20 then true else (if x2 = 36 then true else (if x2 = 52 then true else false))))))))))
theorem sp_X6_mayStand {d : Nat} (hd : 1 ≤ d) {M : xM} (x1 : Int32) (x2 : Int32) (hT : TR M)  : Sp (fX6_mayStand d) [.ref 0, .int x1, .int x2] M (dt (some (.int (bz (sX6_mayStand x1 x2)))) (M)) := by
  refine Sp.of pn_X6 (Nat.le_of_ble_eq_true rfl) (fun h => Bool.noConfusion h) ?_
  refine aw_iload_n dX6_mayStand_0 2 rfl ?_
  refine aw_bipush (v := 11) dX6_mayStand_1 (by decide) ?_
  refine aw_icmp_eq 12 dX6_mayStand_3 (by decide) (fun c1 => ?_) (fun c1 => ?_)
  · refine aw_iload_n dX6_mayStand_12 2 rfl ?_
    refine aw_if_lt 22 dX6_mayStand_13 (by decide) (fun c2 => ?_) (fun c2 => ?_)
    · refine aw_iload_n dX6_mayStand_22 2 rfl ?_
      refine aw_callSi [.int x2] [] (sp_X6_isRowTag (d := d - 1) (by omega) x2 ) dX6_mayStand_23 ml_X6_339 sm_X6_isRowTag rfl (dl1 (d := d) (by omega)) rfl rfl (Nat.le_of_ble_eq_true rfl) rfl rfl (Nat.zero_le _) (Nat.zero_le _) ?_
      refine aw_if_eq 33 dX6_mayStand_26 (by decide) (fun c3 => ?_) (fun c3 => ?_)
      · refine aw_iconst (v := 0) dX6_mayStand_33 (by decide) ?_
        refine aw_zret dX6_mayStand_34 rfl rfl (Nat.zero_le _) (Nat.zero_le _) ?_
        exact ⟨congrArg (fun z => some (Value.int (bz z))) (show sX6_mayStand x1 x2 = false by unfold sX6_mayStand; rw [if_pos c1, if_pos c2, if_pos c3]).symm, rfl⟩
      · refine aw_iconst (v := 1) dX6_mayStand_29 (by decide) ?_
        refine aw_goto 34 dX6_mayStand_30 (by decide) ?_
        refine aw_zret dX6_mayStand_34 rfl rfl (Nat.zero_le _) (Nat.zero_le _) ?_
        exact ⟨congrArg (fun z => some (Value.int (bz z))) (show sX6_mayStand x1 x2 = true by unfold sX6_mayStand; rw [if_pos c1, if_pos c2, if_neg c3]).symm, rfl⟩
    · refine aw_iload_n dX6_mayStand_16 2 rfl ?_
      refine aw_bipush (v := 12) dX6_mayStand_17 (by decide) ?_
      refine aw_icmp_lt 29 dX6_mayStand_19 (by decide) (fun c4 => ?_) (fun c4 => ?_)
      · refine aw_iconst (v := 1) dX6_mayStand_29 (by decide) ?_
        refine aw_goto 34 dX6_mayStand_30 (by decide) ?_
        refine aw_zret dX6_mayStand_34 rfl rfl (Nat.zero_le _) (Nat.zero_le _) ?_
        exact ⟨congrArg (fun z => some (Value.int (bz z))) (show sX6_mayStand x1 x2 = true by unfold sX6_mayStand; rw [if_pos c1, if_neg c2, if_pos c4]).symm, rfl⟩
      · refine aw_iload_n dX6_mayStand_22 2 rfl ?_
        refine aw_callSi [.int x2] [] (sp_X6_isRowTag (d := d - 1) (by omega) x2 ) dX6_mayStand_23 ml_X6_339 sm_X6_isRowTag rfl (dl1 (d := d) (by omega)) rfl rfl (Nat.le_of_ble_eq_true rfl) rfl rfl (Nat.zero_le _) (Nat.zero_le _) ?_
        refine aw_if_eq 33 dX6_mayStand_26 (by decide) (fun c5 => ?_) (fun c5 => ?_)
        · refine aw_iconst (v := 0) dX6_mayStand_33 (by decide) ?_
          refine aw_zret dX6_mayStand_34 rfl rfl (Nat.zero_le _) (Nat.zero_le _) ?_
          exact ⟨congrArg (fun z => some (Value.int (bz z))) (show sX6_mayStand x1 x2 = false by unfold sX6_mayStand; rw [if_pos c1, if_neg c2, if_neg c4, if_pos c5]).symm, rfl⟩
        · refine aw_iconst (v := 1) dX6_mayStand_29 (by decide) ?_
          refine aw_goto 34 dX6_mayStand_30 (by decide) ?_
          refine aw_zret dX6_mayStand_34 rfl rfl (Nat.zero_le _) (Nat.zero_le _) ?_
          exact ⟨congrArg (fun z => some (Value.int (bz z))) (show sX6_mayStand x1 x2 = true by unfold sX6_mayStand; rw [if_pos c1, if_neg c2, if_neg c4, if_neg c5]).symm, rfl⟩
  · refine aw_iload_n dX6_mayStand_6 1 rfl ?_
    refine aw_bipush (v := 12) dX6_mayStand_7 (by decide) ?_
    refine aw_icmp_ne 35 dX6_mayStand_9 (by decide) (fun c6 => ?_) (fun c6 => ?_)
    · refine aw_iload_n dX6_mayStand_35 1 rfl ?_
      refine aw_bipush (v := 8) dX6_mayStand_36 (by decide) ?_
      refine aw_icmp_ne 52 dX6_mayStand_38 (by decide) (fun c7 => ?_) (fun c7 => ?_)
      · refine aw_iload_n dX6_mayStand_52 1 rfl ?_
        refine aw_bipush (v := 9) dX6_mayStand_53 (by decide) ?_
        refine aw_icmp_ne 70 dX6_mayStand_55 (by decide) (fun c8 => ?_) (fun c8 => ?_)
        · refine aw_iload_n dX6_mayStand_70 1 rfl ?_
          refine aw_bipush (v := 10) dX6_mayStand_71 (by decide) ?_
          refine aw_icmp_eq 82 dX6_mayStand_73 (by decide) (fun c9 => ?_) (fun c9 => ?_)
          · refine aw_iload_n dX6_mayStand_82 2 rfl ?_
            refine aw_bipush (v := 9) dX6_mayStand_83 (by decide) ?_
            refine aw_icmp_ne 92 dX6_mayStand_85 (by decide) (fun c10 => ?_) (fun c10 => ?_)
            · refine aw_iconst (v := 0) dX6_mayStand_92 (by decide) ?_
              refine aw_zret dX6_mayStand_93 rfl rfl (Nat.zero_le _) (Nat.zero_le _) ?_
              exact ⟨congrArg (fun z => some (Value.int (bz z))) (show sX6_mayStand x1 x2 = false by unfold sX6_mayStand; rw [if_neg c1, if_neg c6, if_neg c7, if_neg c8, if_pos c9, if_neg c10]).symm, rfl⟩
            · refine aw_iconst (v := 1) dX6_mayStand_88 (by decide) ?_
              refine aw_goto 93 dX6_mayStand_89 (by decide) ?_
              refine aw_zret dX6_mayStand_93 rfl rfl (Nat.zero_le _) (Nat.zero_le _) ?_
              exact ⟨congrArg (fun z => some (Value.int (bz z))) (show sX6_mayStand x1 x2 = true by unfold sX6_mayStand; rw [if_neg c1, if_neg c6, if_neg c7, if_neg c8, if_pos c9, if_pos c10]).symm, rfl⟩
          · refine aw_iload_n dX6_mayStand_76 1 rfl ?_
            refine aw_bipush (v := 11) dX6_mayStand_77 (by decide) ?_
            refine aw_icmp_ne 94 dX6_mayStand_79 (by decide) (fun c11 => ?_) (fun c11 => ?_)
            · refine aw_iload_n dX6_mayStand_94 2 rfl ?_
              refine aw_bipush (v := 10) dX6_mayStand_95 (by decide) ?_
              refine aw_icmp_eq 118 dX6_mayStand_97 (by decide) (fun c12 => ?_) (fun c12 => ?_)
              · refine aw_iconst (v := 1) dX6_mayStand_118 (by decide) ?_
                refine aw_goto 123 dX6_mayStand_119 (by decide) ?_
                refine aw_zret dX6_mayStand_123 rfl rfl (Nat.zero_le _) (Nat.zero_le _) ?_
                exact ⟨congrArg (fun z => some (Value.int (bz z))) (show sX6_mayStand x1 x2 = true by unfold sX6_mayStand; rw [if_neg c1, if_neg c6, if_neg c7, if_neg c8, if_neg c9, if_neg c11, if_pos c12]).symm, rfl⟩
              · refine aw_iload_n dX6_mayStand_100 2 rfl ?_
                refine aw_bipush (v := 20) dX6_mayStand_101 (by decide) ?_
                refine aw_icmp_eq 118 dX6_mayStand_103 (by decide) (fun c13 => ?_) (fun c13 => ?_)
                · refine aw_iconst (v := 1) dX6_mayStand_118 (by decide) ?_
                  refine aw_goto 123 dX6_mayStand_119 (by decide) ?_
                  refine aw_zret dX6_mayStand_123 rfl rfl (Nat.zero_le _) (Nat.zero_le _) ?_
                  exact ⟨congrArg (fun z => some (Value.int (bz z))) (show sX6_mayStand x1 x2 = true by unfold sX6_mayStand; rw [if_neg c1, if_neg c6, if_neg c7, if_neg c8, if_neg c9, if_neg c11, if_neg c12, if_pos c13]).symm, rfl⟩
                · refine aw_iload_n dX6_mayStand_106 2 rfl ?_
                  refine aw_bipush (v := 36) dX6_mayStand_107 (by decide) ?_
                  refine aw_icmp_eq 118 dX6_mayStand_109 (by decide) (fun c14 => ?_) (fun c14 => ?_)
                  · refine aw_iconst (v := 1) dX6_mayStand_118 (by decide) ?_
                    refine aw_goto 123 dX6_mayStand_119 (by decide) ?_
                    refine aw_zret dX6_mayStand_123 rfl rfl (Nat.zero_le _) (Nat.zero_le _) ?_
                    exact ⟨congrArg (fun z => some (Value.int (bz z))) (show sX6_mayStand x1 x2 = true by unfold sX6_mayStand; rw [if_neg c1, if_neg c6, if_neg c7, if_neg c8, if_neg c9, if_neg c11, if_neg c12, if_neg c13, if_pos c14]).symm, rfl⟩
                  · refine aw_iload_n dX6_mayStand_112 2 rfl ?_
                    refine aw_bipush (v := 52) dX6_mayStand_113 (by decide) ?_
                    refine aw_icmp_ne 122 dX6_mayStand_115 (by decide) (fun c15 => ?_) (fun c15 => ?_)
                    · refine aw_iconst (v := 0) dX6_mayStand_122 (by decide) ?_
                      refine aw_zret dX6_mayStand_123 rfl rfl (Nat.zero_le _) (Nat.zero_le _) ?_
                      exact ⟨congrArg (fun z => some (Value.int (bz z))) (show sX6_mayStand x1 x2 = false by unfold sX6_mayStand; rw [if_neg c1, if_neg c6, if_neg c7, if_neg c8, if_neg c9, if_neg c11, if_neg c12, if_neg c13, if_neg c14, if_neg c15]).symm, rfl⟩
                    · refine aw_iconst (v := 1) dX6_mayStand_118 (by decide) ?_
                      refine aw_goto 123 dX6_mayStand_119 (by decide) ?_
                      refine aw_zret dX6_mayStand_123 rfl rfl (Nat.zero_le _) (Nat.zero_le _) ?_
                      exact ⟨congrArg (fun z => some (Value.int (bz z))) (show sX6_mayStand x1 x2 = true by unfold sX6_mayStand; rw [if_neg c1, if_neg c6, if_neg c7, if_neg c8, if_neg c9, if_neg c11, if_neg c12, if_neg c13, if_neg c14, if_pos c15]).symm, rfl⟩
            · refine aw_iload_n dX6_mayStand_82 2 rfl ?_
              refine aw_bipush (v := 9) dX6_mayStand_83 (by decide) ?_
              refine aw_icmp_ne 92 dX6_mayStand_85 (by decide) (fun c16 => ?_) (fun c16 => ?_)
              · refine aw_iconst (v := 0) dX6_mayStand_92 (by decide) ?_
                refine aw_zret dX6_mayStand_93 rfl rfl (Nat.zero_le _) (Nat.zero_le _) ?_
                exact ⟨congrArg (fun z => some (Value.int (bz z))) (show sX6_mayStand x1 x2 = false by unfold sX6_mayStand; rw [if_neg c1, if_neg c6, if_neg c7, if_neg c8, if_neg c9, if_pos c11, if_neg c16]).symm, rfl⟩
              · refine aw_iconst (v := 1) dX6_mayStand_88 (by decide) ?_
                refine aw_goto 93 dX6_mayStand_89 (by decide) ?_
                refine aw_zret dX6_mayStand_93 rfl rfl (Nat.zero_le _) (Nat.zero_le _) ?_
                exact ⟨congrArg (fun z => some (Value.int (bz z))) (show sX6_mayStand x1 x2 = true by unfold sX6_mayStand; rw [if_neg c1, if_neg c6, if_neg c7, if_neg c8, if_neg c9, if_pos c11, if_pos c16]).symm, rfl⟩
        · refine aw_iload_n dX6_mayStand_58 2 rfl ?_
          refine aw_bipush (v := 8) dX6_mayStand_59 (by decide) ?_
          refine aw_icmp_ne 68 dX6_mayStand_61 (by decide) (fun c17 => ?_) (fun c17 => ?_)
          · refine aw_iconst (v := 0) dX6_mayStand_68 (by decide) ?_
            refine aw_zret dX6_mayStand_69 rfl rfl (Nat.zero_le _) (Nat.zero_le _) ?_
            exact ⟨congrArg (fun z => some (Value.int (bz z))) (show sX6_mayStand x1 x2 = false by unfold sX6_mayStand; rw [if_neg c1, if_neg c6, if_neg c7, if_pos c8, if_neg c17]).symm, rfl⟩
          · refine aw_iconst (v := 1) dX6_mayStand_64 (by decide) ?_
            refine aw_goto 69 dX6_mayStand_65 (by decide) ?_
            refine aw_zret dX6_mayStand_69 rfl rfl (Nat.zero_le _) (Nat.zero_le _) ?_
            exact ⟨congrArg (fun z => some (Value.int (bz z))) (show sX6_mayStand x1 x2 = true by unfold sX6_mayStand; rw [if_neg c1, if_neg c6, if_neg c7, if_pos c8, if_pos c17]).symm, rfl⟩
      · refine aw_iload_n dX6_mayStand_41 2 rfl ?_
        refine aw_iconst (v := 4) dX6_mayStand_42 (by decide) ?_
        refine aw_icmp_ne 50 dX6_mayStand_43 (by decide) (fun c18 => ?_) (fun c18 => ?_)
        · refine aw_iconst (v := 0) dX6_mayStand_50 (by decide) ?_
          refine aw_zret dX6_mayStand_51 rfl rfl (Nat.zero_le _) (Nat.zero_le _) ?_
          exact ⟨congrArg (fun z => some (Value.int (bz z))) (show sX6_mayStand x1 x2 = false by unfold sX6_mayStand; rw [if_neg c1, if_neg c6, if_pos c7, if_neg c18]).symm, rfl⟩
        · refine aw_iconst (v := 1) dX6_mayStand_46 (by decide) ?_
          refine aw_goto 51 dX6_mayStand_47 (by decide) ?_
          refine aw_zret dX6_mayStand_51 rfl rfl (Nat.zero_le _) (Nat.zero_le _) ?_
          exact ⟨congrArg (fun z => some (Value.int (bz z))) (show sX6_mayStand x1 x2 = true by unfold sX6_mayStand; rw [if_neg c1, if_neg c6, if_pos c7, if_pos c18]).symm, rfl⟩
    · refine aw_iload_n dX6_mayStand_12 2 rfl ?_
      refine aw_if_lt 22 dX6_mayStand_13 (by decide) (fun c19 => ?_) (fun c19 => ?_)
      · refine aw_iload_n dX6_mayStand_22 2 rfl ?_
        refine aw_callSi [.int x2] [] (sp_X6_isRowTag (d := d - 1) (by omega) x2 ) dX6_mayStand_23 ml_X6_339 sm_X6_isRowTag rfl (dl1 (d := d) (by omega)) rfl rfl (Nat.le_of_ble_eq_true rfl) rfl rfl (Nat.zero_le _) (Nat.zero_le _) ?_
        refine aw_if_eq 33 dX6_mayStand_26 (by decide) (fun c20 => ?_) (fun c20 => ?_)
        · refine aw_iconst (v := 0) dX6_mayStand_33 (by decide) ?_
          refine aw_zret dX6_mayStand_34 rfl rfl (Nat.zero_le _) (Nat.zero_le _) ?_
          exact ⟨congrArg (fun z => some (Value.int (bz z))) (show sX6_mayStand x1 x2 = false by unfold sX6_mayStand; rw [if_neg c1, if_pos c6, if_pos c19, if_pos c20]).symm, rfl⟩
        · refine aw_iconst (v := 1) dX6_mayStand_29 (by decide) ?_
          refine aw_goto 34 dX6_mayStand_30 (by decide) ?_
          refine aw_zret dX6_mayStand_34 rfl rfl (Nat.zero_le _) (Nat.zero_le _) ?_
          exact ⟨congrArg (fun z => some (Value.int (bz z))) (show sX6_mayStand x1 x2 = true by unfold sX6_mayStand; rw [if_neg c1, if_pos c6, if_pos c19, if_neg c20]).symm, rfl⟩
      · refine aw_iload_n dX6_mayStand_16 2 rfl ?_
        refine aw_bipush (v := 12) dX6_mayStand_17 (by decide) ?_
        refine aw_icmp_lt 29 dX6_mayStand_19 (by decide) (fun c21 => ?_) (fun c21 => ?_)
        · refine aw_iconst (v := 1) dX6_mayStand_29 (by decide) ?_
          refine aw_goto 34 dX6_mayStand_30 (by decide) ?_
          refine aw_zret dX6_mayStand_34 rfl rfl (Nat.zero_le _) (Nat.zero_le _) ?_
          exact ⟨congrArg (fun z => some (Value.int (bz z))) (show sX6_mayStand x1 x2 = true by unfold sX6_mayStand; rw [if_neg c1, if_pos c6, if_neg c19, if_pos c21]).symm, rfl⟩
        · refine aw_iload_n dX6_mayStand_22 2 rfl ?_
          refine aw_callSi [.int x2] [] (sp_X6_isRowTag (d := d - 1) (by omega) x2 ) dX6_mayStand_23 ml_X6_339 sm_X6_isRowTag rfl (dl1 (d := d) (by omega)) rfl rfl (Nat.le_of_ble_eq_true rfl) rfl rfl (Nat.zero_le _) (Nat.zero_le _) ?_
          refine aw_if_eq 33 dX6_mayStand_26 (by decide) (fun c22 => ?_) (fun c22 => ?_)
          · refine aw_iconst (v := 0) dX6_mayStand_33 (by decide) ?_
            refine aw_zret dX6_mayStand_34 rfl rfl (Nat.zero_le _) (Nat.zero_le _) ?_
            exact ⟨congrArg (fun z => some (Value.int (bz z))) (show sX6_mayStand x1 x2 = false by unfold sX6_mayStand; rw [if_neg c1, if_pos c6, if_neg c19, if_neg c21, if_pos c22]).symm, rfl⟩
          · refine aw_iconst (v := 1) dX6_mayStand_29 (by decide) ?_
            refine aw_goto 34 dX6_mayStand_30 (by decide) ?_
            refine aw_zret dX6_mayStand_34 rfl rfl (Nat.zero_le _) (Nat.zero_le _) ?_
            exact ⟨congrArg (fun z => some (Value.int (bz z))) (show sX6_mayStand x1 x2 = true by unfold sX6_mayStand; rw [if_neg c1, if_pos c6, if_neg c19, if_neg c21, if_neg c22]).symm, rfl⟩
theorem ms_eq : ∀ k, k < 14 → 8 ≤ k → ∀ b, b < 256 → sX6_mayStand (nI k) (nI b) = sX1_mayStand (nI k) (nI b) := by decide +kernel
theorem ms_eq1 : ∀ k, k < 14 → 8 ≤ k → sX6_mayStand (nI k) (-1) = false := by decide
theorem tg_eq : ∀ b, b < 256 → sX6_isRowTag (nI b) = sX1_isArrayTag (nI b) := by decide +kernel
def cS (t j : Nat) : Nat := 12 * (12 + t) + j
theorem RS.cel {M0 A : xM} {p : Nat} {R : pR} (h : RS M0 p R A) {t j w : Nat} (ht : t < R.1) (hj : j < 12) (hk : rK R t < 14) (v : Int64) (q : Nat) : RS M0 q (rSet R t j w v) (stL (stI (stI (stI A 0 24 (nI (p + 1))) 4 (12 * (12 + t) + j) (nI w)) 0 24 (nI q)) 5 (12 * (12 + t) + j) (vR w v)) := by
  obtain ⟨h1, h2, h3, h4, h5⟩ := h
  refine ⟨(((h1.i 24 _ (by decide)).w (by omega) _).i 24 _ (by decide)).c (by omega) _, mI_stI_v (stI (stI A 0 24 (nI (p + 1))) 4 (12 * (12 + t) + j) (nI w)) 0 24 (nI q), ?_, ?_, RSr_set h5 ht hj hk ?_ ?_ ?_ ?_ ?_ ?_ ?_⟩
  · rw [mI_stL_c, mI_stI_o _ _ _ _ (by decide), mI_stI_c _ _ _ (by decide), mI_stI_o _ _ _ _ (by decide)]; exact h3
  · rw [mI_stL_c, mI_stI_o _ _ _ _ (by decide), mI_stI_c _ _ _ (by decide), mI_stI_o _ _ _ _ (by decide)]; exact h4
  · rw [mI_stL_c, mI_stI_c _ _ _ (by decide), mI_stI_c _ _ _ (by decide), mI_stI_c _ _ _ (by decide)]
  · rw [mI_stL_c, mI_stI_c _ _ _ (by decide), mI_stI_c _ _ _ (by decide), mI_stI_c _ _ _ (by decide)]
  · rw [mL_stL_c _ _ _ (by decide)]; rfl
  · intro i hi
    rw [mI_stL_c, mI_stI_c _ _ _ (by decide), mI_stI_o _ _ _ _ hi, mI_stI_c _ _ _ (by decide)]
  · intro i hi
    exact xup_k A.2.1 5 (vR w v) hi 5
  · rw [mI_stL_c, mI_stI_c _ _ _ (by decide), mI_stI_v]
  · exact xup_s A.2.1 5 _ (vR w v)
theorem RS.nul {M0 A : xM} {p : Nat} {R : pR} (h : RS M0 p R A) {t j : Nat} (ht : t < R.1) (hj : j < 12) (hz : j < rZ R t) (hk : rK R t < 14) (hw : rW R t j = 11) (hv : rV R t j = 0) : RS M0 (p + 1) (rSet R t j 11 0) (stI (stI A 0 24 (nI (p + 1))) 4 (12 * (12 + t) + j) (nI 11)) := by
  obtain ⟨h1, h2, h3, h4, h5⟩ := h
  refine ⟨(h1.i 24 _ (by decide)).w (by omega) _, ?_, ?_, ?_, RSr_set h5 ht hj hk ?_ ?_ rfl ?_ (fun _ _ => rfl) (mI_stI_v _ _ _ _) ?_⟩
  · rw [mI_stI_c _ _ _ (by decide), mI_stI_v]
  · rw [mI_stI_c _ _ _ (by decide), mI_stI_o _ _ _ _ (by decide)]; exact h3
  · rw [mI_stI_c _ _ _ (by decide), mI_stI_o _ _ _ _ (by decide)]; exact h4
  · rw [mI_stI_c _ _ _ (by decide), mI_stI_c _ _ _ (by decide)]
  · rw [mI_stI_c _ _ _ (by decide), mI_stI_c _ _ _ (by decide)]
  · intro i hi
    rw [mI_stI_o _ _ _ _ hi, mI_stI_c _ _ _ (by decide)]
  · have q := ((h5.2 t ht).2.2.2.2.2 j hz).2
    rw [hw, hv] at q
    exact q
theorem RS.tag {M0 A : xM} {p : Nat} {R : pR} (h : RS M0 p R A) {t j : Nat} (ht : t < R.1) (hj : j < 12) (hk : rK R t < 14) : RS M0 p (rSet R t j 10 (lN R.1)) (stL (stI A 4 (12 * (12 + t) + j) 10) 5 (12 * (12 + t) + j) (lN (12 + R.1))) := by
  obtain ⟨h1, h2, h3, h4, h5⟩ := h
  have hu := h5.1
  refine ⟨(h1.w (by omega) _).c (by omega) _, ?_, ?_, ?_, RSr_set h5 ht hj hk ?_ ?_ ?_ ?_ ?_ (mI_stI_v A 4 _ 10) ?_⟩
  · rw [mI_stL_c, mI_stI_c _ _ _ (by decide)]; exact h2
  · rw [mI_stL_c, mI_stI_c _ _ _ (by decide)]; exact h3
  · rw [mI_stL_c, mI_stI_c _ _ _ (by decide)]; exact h4
  · rw [mI_stL_c, mI_stI_c _ _ _ (by decide)]
  · rw [mI_stL_c, mI_stI_c _ _ _ (by decide)]
  · rw [mL_stL_c _ _ _ (by decide)]; rfl
  · intro i hi
    rw [mI_stL_c, mI_stI_o _ _ _ _ hi]
  · intro i hi
    exact xup_k A.2.1 5 _ hi 5
  · rw [show vR 10 (lN R.1) = lN (12 + R.1) by unfold vR; rw [if_pos rfl, lC_N (by omega)]]
    exact xup_s A.2.1 5 _ _
def QE (M0 A : xM) (R : pR) (t j b : Nat) (q : pV) : Option Value → xM → Prop := fun r C => r = none ∧ match q with
  | .ok vp => RS M0 vp.2 (rSet R t j b vp.1) C ∧ SK A C
  | .error f => RFm M0 C ∧ mI C 0 25 = nI f
theorem sp_rc_f {d : Nat} (hd : 5 ≤ d) {M0 A : xM} {B : Nat → Nat} {L p k t j : Nat} {R : pR} (hS : RfS M0 B L) (hC : RS M0 p R A) (ht : t < R.1) (hkt : rK R t = k) (hk8 : 8 ≤ k) (hk14 : k < 14) (hj : j < rZ R t) (hpl : p ≤ L) (hm : ¬ (p < L ∧ sX1_mayStand (nI k) (nI (B p)) = true)) : Sp (fX6_readsCell d) [.ref 0, .int (nI (12 + t)), .int (nI j)] A (fun r C => r = none ∧ RFm M0 C ∧ mI C 0 25 = nI p) := by
  refine Sp.of pn_X6 (Nat.le_of_ble_eq_true rfl) (fun h => Bool.noConfusion h) ?_
  have hL2 := hS.2.1
  have hD := hC.1.D hS
  have hT := hD.1
  have hu12 := hC.2.2.2.2.1
  obtain ⟨-, zz, a3, a4, -, -⟩ := hC.2.2.2.2.2 t ht
  have hk : mI A 1 (12 + t) = nI k := by rw [a3, hkt]
  by_cases cl : p < L
  · have hb := (hD.2.2.2 p cl).2
    have hms : sX6_mayStand (nI k) (nI (B p)) = false := by
      rw [ms_eq k hk14 hk8 (B p) hb]
      cases e : sX1_mayStand (nI k) (nI (B p)) with
      | false => rfl
      | true => exact absurd ⟨cl, e⟩ hm
    refine aw_aload_n dX6_readsCell_0 0 rfl ?_
    refine aw_aload_n dX6_readsCell_1 0 rfl ?_
    refine aw_getI dX6_readsCell_2 fl_X6_289 (hT.s 0 (by decide)) (hT.n 0 (by decide)) ?_
    refine aw_topE hC.2.1 ?_
    refine aw_callVi [.int (nI p)] [] (sp_by (d := d - 1) hD cl) dX6_readsCell_5 ml_X6_292 im_X6_byteAt (hT.s 0 (by decide)) (hT.n 0 (by decide)) rfl rfl (dl1 (d := d) (by omega)) rfl rfl (Nat.le_of_ble_eq_true rfl) rfl rfl (Nat.zero_le _) (Nat.zero_le _) ?_
    refine aw_istore_n [(3, .int (nI (B p))), (0, .ref 0), (1, .int (nI (12 + t))), (2, .int (nI j))] dX6_readsCell_8 (Nat.le_of_ble_eq_true rfl) rfl ?_
    refine aw_aload_n dX6_readsCell_9 1 rfl ?_
    refine aw_aload_n dX6_readsCell_10 1 rfl ?_
    refine aw_getR (b := 1) dX6_readsCell_11 fl_X6_7 rfl (hT.s 0 (by decide)) (hT.n 0 (by decide)) (hT.r 0) ?_
    refine aw_iload_n dX6_readsCell_14 2 rfl ?_
    refine aw_ialdN (12 + t) dX6_readsCell_15 (hT.s 1 (by decide)) (hT.n 1 (by decide)) rfl (by omega) (by first | decide | omega) ?_
    refine aw_topE hk ?_
    refine aw_iload_n dX6_readsCell_16 0 rfl ?_
    refine aw_callVi [.int (nI k), .int (nI (B p))] [] (sp_X6_mayStand (d := d - 1) (by omega) (nI k) (nI (B p)) hT) dX6_readsCell_17 ml_X6_342 im_X6_mayStand (hT.s 0 (by decide)) (hT.n 0 (by decide)) rfl rfl (dl1 (d := d) (by omega)) rfl rfl (Nat.le_of_ble_eq_true rfl) rfl rfl (Nat.zero_le _) (Nat.zero_le _) ?_
    refine aw_if_ne 32 dX6_readsCell_20 (by decide) (fun c1 => absurd (bz_0.mpr hms) c1) (fun c1 => ?_)
    refine aw_aload_n dX6_readsCell_23 1 rfl ?_
    refine aw_aload_n dX6_readsCell_24 1 rfl ?_
    refine aw_getI dX6_readsCell_25 fl_X6_289 (hT.s 0 (by decide)) (hT.n 0 (by decide)) ?_
    refine aw_topE hC.2.1 ?_
    refine aw_callVv [.int (nI p)] [] (sp_fa (d := d - 1) (nI p) hT hC.2.2.1) dX6_readsCell_28 ml_X6_295 im_X6_faults (hT.s 0 (by decide)) (hT.n 0 (by decide)) rfl rfl (dl1 (d := d) (by omega)) rfl rfl (Nat.le_of_ble_eq_true rfl) rfl rfl (Nat.zero_le _) (Nat.zero_le _) ?_
    refine aw_ret dX6_readsCell_31 rfl (Nat.zero_le _) (Nat.zero_le _) ?_
    exact ⟨rfl, hC.1.i 25 (nI p) (by decide), mI_stI_v _ _ _ _⟩
  · have hms := ms_eq1 k hk14 hk8
    refine aw_aload_n dX6_readsCell_0 0 rfl ?_
    refine aw_aload_n dX6_readsCell_1 0 rfl ?_
    refine aw_getI dX6_readsCell_2 fl_X6_289 (hT.s 0 (by decide)) (hT.n 0 (by decide)) ?_
    refine aw_topE hC.2.1 ?_
    refine aw_callVi [.int (nI p)] [] (sp_byn (d := d - 1) hD cl (by omega)) dX6_readsCell_5 ml_X6_292 im_X6_byteAt (hT.s 0 (by decide)) (hT.n 0 (by decide)) rfl rfl (dl1 (d := d) (by omega)) rfl rfl (Nat.le_of_ble_eq_true rfl) rfl rfl (Nat.zero_le _) (Nat.zero_le _) ?_
    refine aw_istore_n [(3, .int (-1)), (0, .ref 0), (1, .int (nI (12 + t))), (2, .int (nI j))] dX6_readsCell_8 (Nat.le_of_ble_eq_true rfl) rfl ?_
    refine aw_aload_n dX6_readsCell_9 1 rfl ?_
    refine aw_aload_n dX6_readsCell_10 1 rfl ?_
    refine aw_getR (b := 1) dX6_readsCell_11 fl_X6_7 rfl (hT.s 0 (by decide)) (hT.n 0 (by decide)) (hT.r 0) ?_
    refine aw_iload_n dX6_readsCell_14 2 rfl ?_
    refine aw_ialdN (12 + t) dX6_readsCell_15 (hT.s 1 (by decide)) (hT.n 1 (by decide)) rfl (by omega) (by first | decide | omega) ?_
    refine aw_topE hk ?_
    refine aw_iload_n dX6_readsCell_16 0 rfl ?_
    refine aw_callVi [.int (nI k), .int (-1)] [] (sp_X6_mayStand (d := d - 1) (by omega) (nI k) (-1) hT) dX6_readsCell_17 ml_X6_342 im_X6_mayStand (hT.s 0 (by decide)) (hT.n 0 (by decide)) rfl rfl (dl1 (d := d) (by omega)) rfl rfl (Nat.le_of_ble_eq_true rfl) rfl rfl (Nat.zero_le _) (Nat.zero_le _) ?_
    refine aw_if_ne 32 dX6_readsCell_20 (by decide) (fun c1 => absurd (bz_0.mpr hms) c1) (fun c1 => ?_)
    refine aw_aload_n dX6_readsCell_23 1 rfl ?_
    refine aw_aload_n dX6_readsCell_24 1 rfl ?_
    refine aw_getI dX6_readsCell_25 fl_X6_289 (hT.s 0 (by decide)) (hT.n 0 (by decide)) ?_
    refine aw_topE hC.2.1 ?_
    refine aw_callVv [.int (nI p)] [] (sp_fa (d := d - 1) (nI p) hT hC.2.2.1) dX6_readsCell_28 ml_X6_295 im_X6_faults (hT.s 0 (by decide)) (hT.n 0 (by decide)) rfl rfl (dl1 (d := d) (by omega)) rfl rfl (Nat.le_of_ble_eq_true rfl) rfl rfl (Nat.zero_le _) (Nat.zero_le _) ?_
    refine aw_ret dX6_readsCell_31 rfl (Nat.zero_le _) (Nat.zero_le _) ?_
    exact ⟨rfl, hC.1.i 25 (nI p) (by decide), mI_stI_v _ _ _ _⟩
theorem sp_rc_t {d : Nat} (hd : 5 ≤ d) {M0 A : xM} {B : Nat → Nat} {L p k t j : Nat} {R : pR} (hS : RfS M0 B L) (hC : RS M0 p R A) (ht : t < R.1) (hkt : rK R t = k) (hk8 : 8 ≤ k) (hk14 : k < 14) (hj : j < rZ R t) (cl : p < L) (hm : sX1_mayStand (nI k) (nI (B p)) = true) (htag : sX1_isArrayTag (nI (B p)) = true) {Q : xM → Prop} (hrow : Sp (fX6_readsRow (d - 1)) [.ref 0] (stL (stI A 4 (12 * (12 + t) + j) 10) 5 (12 * (12 + t) + j) (lN (12 + R.1))) (fun r C => r = none ∧ Q C)) : Sp (fX6_readsCell d) [.ref 0, .int (nI (12 + t)), .int (nI j)] A (fun r C => r = none ∧ Q C) := by
  refine Sp.of pn_X6 (Nat.le_of_ble_eq_true rfl) (fun h => Bool.noConfusion h) ?_
  have hL2 := hS.2.1
  have hD := hC.1.D hS
  have hT := hD.1
  have hu12 := hC.2.2.2.2.1
  obtain ⟨-, zz, a3, a4, -, -⟩ := hC.2.2.2.2.2 t ht
  have hk : mI A 1 (12 + t) = nI k := by rw [a3, hkt]
  have hb := (hD.2.2.2 p cl).2
  have hms : sX6_mayStand (nI k) (nI (B p)) = true := by rw [ms_eq k hk14 hk8 (B p) hb]; exact hm
  have htg : sX6_isRowTag (nI (B p)) = true := by rw [tg_eq (B p) hb]; exact htag
  refine aw_aload_n dX6_readsCell_0 0 rfl ?_
  refine aw_aload_n dX6_readsCell_1 0 rfl ?_
  refine aw_getI dX6_readsCell_2 fl_X6_289 (hT.s 0 (by decide)) (hT.n 0 (by decide)) ?_
  refine aw_topE hC.2.1 ?_
  refine aw_callVi [.int (nI p)] [] (sp_by (d := d - 1) hD cl) dX6_readsCell_5 ml_X6_292 im_X6_byteAt (hT.s 0 (by decide)) (hT.n 0 (by decide)) rfl rfl (dl1 (d := d) (by omega)) rfl rfl (Nat.le_of_ble_eq_true rfl) rfl rfl (Nat.zero_le _) (Nat.zero_le _) ?_
  refine aw_istore_n [(3, .int (nI (B p))), (0, .ref 0), (1, .int (nI (12 + t))), (2, .int (nI j))] dX6_readsCell_8 (Nat.le_of_ble_eq_true rfl) rfl ?_
  refine aw_aload_n dX6_readsCell_9 1 rfl ?_
  refine aw_aload_n dX6_readsCell_10 1 rfl ?_
  refine aw_getR (b := 1) dX6_readsCell_11 fl_X6_7 rfl (hT.s 0 (by decide)) (hT.n 0 (by decide)) (hT.r 0) ?_
  refine aw_iload_n dX6_readsCell_14 2 rfl ?_
  refine aw_ialdN (12 + t) dX6_readsCell_15 (hT.s 1 (by decide)) (hT.n 1 (by decide)) rfl (by omega) (by first | decide | omega) ?_
  refine aw_topE hk ?_
  refine aw_iload_n dX6_readsCell_16 0 rfl ?_
  refine aw_callVi [.int (nI k), .int (nI (B p))] [] (sp_X6_mayStand (d := d - 1) (by omega) (nI k) (nI (B p)) hT) dX6_readsCell_17 ml_X6_342 im_X6_mayStand (hT.s 0 (by decide)) (hT.n 0 (by decide)) rfl rfl (dl1 (d := d) (by omega)) rfl rfl (Nat.le_of_ble_eq_true rfl) rfl rfl (Nat.zero_le _) (Nat.zero_le _) ?_
  refine aw_if_ne 32 dX6_readsCell_20 (by decide) (fun c1 => ?_) (fun c1 => absurd c1 (bz_n0.mpr hms))
  refine aw_bipush (v := 12) dX6_readsCell_32 (by decide) ?_
  refine aw_iload_n dX6_readsCell_34 2 rfl ?_
  refine aw_imulN 12 (12 + t) dX6_readsCell_35 rfl rfl ?_
  refine aw_iload_n dX6_readsCell_36 3 rfl ?_
  refine aw_iaddN (12 * (12 + t)) j dX6_readsCell_37 rfl rfl ?_
  refine aw_istore [(4, .int (nI ((12 * (12 + t)) + j))), (3, .int (nI (B p))), (0, .ref 0), (1, .int (nI (12 + t))), (2, .int (nI j))] dX6_readsCell_38 (Nat.le_of_ble_eq_true rfl) rfl ?_
  refine aw_iload_n dX6_readsCell_40 1 rfl ?_
  refine aw_callSi [.int (nI (B p))] [] (sp_X6_isRowTag (d := d - 1) (by omega) (nI (B p))) dX6_readsCell_41 ml_X6_339 sm_X6_isRowTag rfl (dl1 (d := d) (by omega)) rfl rfl (Nat.le_of_ble_eq_true rfl) rfl rfl (Nat.zero_le _) (Nat.zero_le _) ?_
  refine aw_if_eq 76 dX6_readsCell_44 (by decide) (fun c2 => absurd c2 (bz_n0.mpr htg)) (fun c2 => ?_)
  refine aw_aload_n dX6_readsCell_47 2 rfl ?_
  refine aw_getR (b := 4) dX6_readsCell_48 fl_X6_20 rfl (hT.s 0 (by decide)) (hT.n 0 (by decide)) (hT.r 3) ?_
  refine aw_iload dX6_readsCell_51 0 rfl ?_
  refine aw_bipush (v := 10) dX6_readsCell_53 (by decide) ?_
  refine aw_iastN ((12 * (12 + t)) + j) dX6_readsCell_55 (hT.s 4 (by decide)) (hT.n 4 (by decide)) rfl (by omega) (by first | decide | omega) ?_
  refine aw_aload_n dX6_readsCell_56 2 rfl ?_
  refine aw_getR (b := 5) dX6_readsCell_57 fl_X6_23 rfl (((sT.I A 4 ((12 * (12 + t)) + j) 10).TR hT).s 0 (by decide)) (((sT.I A 4 ((12 * (12 + t)) + j) 10).TR hT).n 0 (by decide)) (((sT.I A 4 ((12 * (12 + t)) + j) 10).TR hT).r 4) ?_
  refine aw_iload dX6_readsCell_60 0 rfl ?_
  refine aw_bipush (v := 12) dX6_readsCell_62 (by decide) ?_
  refine aw_aload_n dX6_readsCell_64 2 rfl ?_
  refine aw_getI dX6_readsCell_65 fl_X6_327 (((sT.I A 4 ((12 * (12 + t)) + j) 10).TR hT).s 0 (by decide)) (((sT.I A 4 ((12 * (12 + t)) + j) 10).TR hT).n 0 (by decide)) ?_
  refine aw_topE ((congrFun (mI_stI_c _ _ _ (by decide)) 26).trans hC.2.2.2.1) ?_
  refine aw_iaddN 12 R.1 dX6_readsCell_68 rfl rfl ?_
  refine aw_i2lN (12 + R.1) dX6_readsCell_69 rfl (by omega) ?_
  refine aw_lastN ((12 * (12 + t)) + j) dX6_readsCell_70 (((sT.I A 4 ((12 * (12 + t)) + j) 10).TR hT).s 5 (by decide)) (((sT.I A 4 ((12 * (12 + t)) + j) 10).TR hT).n 5 (by decide)) rfl (by omega) (by first | decide | omega) ?_
  refine aw_aload_n dX6_readsCell_71 2 rfl ?_
  refine aw_callVx [] [] hrow dX6_readsCell_72 ml_X6_345 im_X6_readsRow (((sT.L (stI A 4 ((12 * (12 + t)) + j) 10) 5 ((12 * (12 + t)) + j) (lN (12 + R.1))).TR ((sT.I A 4 ((12 * (12 + t)) + j) 10).TR hT)).s 0 (by decide)) (((sT.L (stI A 4 ((12 * (12 + t)) + j) 10) 5 ((12 * (12 + t)) + j) (lN (12 + R.1))).TR ((sT.I A 4 ((12 * (12 + t)) + j) 10).TR hT)).n 0 (by decide)) rfl rfl (dl1 (d := d) (by omega)) rfl rfl (Nat.le_of_ble_eq_true rfl) rfl rfl (Nat.zero_le _) (Nat.zero_le _) (fun r A1 hA1 => ?_)
  obtain ⟨rfl, hA1⟩ := hA1
  refine aw_nil ?_
  refine aw_ret dX6_readsCell_75 rfl (Nat.zero_le _) (Nat.zero_le _) ?_
  exact ⟨rfl, hA1⟩
theorem sp_rc_e {d : Nat} (hd : 5 ≤ d) {M0 A : xM} {B : Nat → Nat} {L p k t j : Nat} {R : pR} (hS : RfS M0 B L) (hC : RS M0 p R A) (ht : t < R.1) (hkt : rK R t = k) (hk8 : 8 ≤ k) (hk14 : k < 14) (hj : j < rZ R t) (cl : p < L) (hm : sX1_mayStand (nI k) (nI (B p)) = true) (htag : sX1_isArrayTag (nI (B p)) = false) (hw : rW R t j = 11) (hv : rV R t j = 0) : Sp (fX6_readsCell d) [.ref 0, .int (nI (12 + t)), .int (nI j)] A (QE M0 A R t j (B p) (pElem B L R k (B p) (p + 1))) := by
  refine Sp.of pn_X6 (Nat.le_of_ble_eq_true rfl) (fun h => Bool.noConfusion h) ?_
  have hL2 := hS.2.1
  have hD := hC.1.D hS
  have hT := hD.1
  have hu12 := hC.2.2.2.2.1
  obtain ⟨-, zz, a3, a4, -, -⟩ := hC.2.2.2.2.2 t ht
  have hk : mI A 1 (12 + t) = nI k := by rw [a3, hkt]
  have hb := (hD.2.2.2 p cl).2
  have hms : sX6_mayStand (nI k) (nI (B p)) = true := by rw [ms_eq k hk14 hk8 (B p) hb]; exact hm
  have htg : sX6_isRowTag (nI (B p)) = false := by rw [tg_eq (B p) hb]; exact htag
  have hb12 := el_ok k hk14 hk8 (B p) hb hm htag
  have hF1 : RFm M0 (stI (stI A 0 24 (nI (p + 1))) 4 (12 * (12 + t) + j) (nI (B p))) := (hC.1.i 24 _ (by decide)).w (by omega) _
  have hD1 := hF1.D hS
  have hT1 := hD1.1
  have hp1 : mI (stI (stI A 0 24 (nI (p + 1))) 4 (12 * (12 + t) + j) (nI (B p))) 0 24 = nI (p + 1) := (congrFun (mI_stI_c _ _ _ (by decide)) 24).trans (mI_stI_v _ _ _ _)
  have hf1 : mI (stI (stI A 0 24 (nI (p + 1))) 4 (12 * (12 + t) + j) (nI (B p))) 0 25 = -1 := (congrFun (mI_stI_c _ _ _ (by decide)) 25).trans ((mI_stI_o _ _ _ _ (by decide)).trans hC.2.2.1)
  have hsk : SK A (stI (stI A 0 24 (nI (p + 1))) 4 (12 * (12 + t) + j) (nI (B p))) := SK.t (SK_i A (nI (p + 1)) (by decide)) (SK_w _ _ _)
  have hcs : B p = 8 ∨ B p = 9 ∨ B p = 10 ∨ B p = 11 ∨ B p < 8 := by omega
  unfold pElem
  rcases hcs with c | c | c | c | c
  · rw [if_pos c]
    have hq := sp_rwd (d := d - 1) (by omega) hD1 hp1 (by omega) hf1
    cases e : pWord B L (p + 1) with
    | error f =>
      rw [e] at hq
      refine aw_aload_n dX6_readsCell_0 0 rfl ?_
      refine aw_aload_n dX6_readsCell_1 0 rfl ?_
      refine aw_getI dX6_readsCell_2 fl_X6_289 (hT.s 0 (by decide)) (hT.n 0 (by decide)) ?_
      refine aw_topE hC.2.1 ?_
      refine aw_callVi [.int (nI p)] [] (sp_by (d := d - 1) hD cl) dX6_readsCell_5 ml_X6_292 im_X6_byteAt (hT.s 0 (by decide)) (hT.n 0 (by decide)) rfl rfl (dl1 (d := d) (by omega)) rfl rfl (Nat.le_of_ble_eq_true rfl) rfl rfl (Nat.zero_le _) (Nat.zero_le _) ?_
      refine aw_istore_n [(3, .int (nI (B p))), (0, .ref 0), (1, .int (nI (12 + t))), (2, .int (nI j))] dX6_readsCell_8 (Nat.le_of_ble_eq_true rfl) rfl ?_
      refine aw_aload_n dX6_readsCell_9 1 rfl ?_
      refine aw_aload_n dX6_readsCell_10 1 rfl ?_
      refine aw_getR (b := 1) dX6_readsCell_11 fl_X6_7 rfl (hT.s 0 (by decide)) (hT.n 0 (by decide)) (hT.r 0) ?_
      refine aw_iload_n dX6_readsCell_14 2 rfl ?_
      refine aw_ialdN (12 + t) dX6_readsCell_15 (hT.s 1 (by decide)) (hT.n 1 (by decide)) rfl (by omega) (by first | decide | omega) ?_
      refine aw_topE hk ?_
      refine aw_iload_n dX6_readsCell_16 0 rfl ?_
      refine aw_callVi [.int (nI k), .int (nI (B p))] [] (sp_X6_mayStand (d := d - 1) (by omega) (nI k) (nI (B p)) hT) dX6_readsCell_17 ml_X6_342 im_X6_mayStand (hT.s 0 (by decide)) (hT.n 0 (by decide)) rfl rfl (dl1 (d := d) (by omega)) rfl rfl (Nat.le_of_ble_eq_true rfl) rfl rfl (Nat.zero_le _) (Nat.zero_le _) ?_
      refine aw_if_ne 32 dX6_readsCell_20 (by decide) (fun c1 => ?_) (fun c1 => absurd c1 (bz_n0.mpr hms))
      refine aw_bipush (v := 12) dX6_readsCell_32 (by decide) ?_
      refine aw_iload_n dX6_readsCell_34 2 rfl ?_
      refine aw_imulN 12 (12 + t) dX6_readsCell_35 rfl rfl ?_
      refine aw_iload_n dX6_readsCell_36 3 rfl ?_
      refine aw_iaddN (12 * (12 + t)) j dX6_readsCell_37 rfl rfl ?_
      refine aw_istore [(4, .int (nI ((12 * (12 + t)) + j))), (3, .int (nI (B p))), (0, .ref 0), (1, .int (nI (12 + t))), (2, .int (nI j))] dX6_readsCell_38 (Nat.le_of_ble_eq_true rfl) rfl ?_
      refine aw_iload_n dX6_readsCell_40 1 rfl ?_
      refine aw_callSi [.int (nI (B p))] [] (sp_X6_isRowTag (d := d - 1) (by omega) (nI (B p))) dX6_readsCell_41 ml_X6_339 sm_X6_isRowTag rfl (dl1 (d := d) (by omega)) rfl rfl (Nat.le_of_ble_eq_true rfl) rfl rfl (Nat.zero_le _) (Nat.zero_le _) ?_
      refine aw_if_eq 76 dX6_readsCell_44 (by decide) (fun c2 => ?_) (fun c2 => absurd (bz_0.mpr htg) c2)
      refine aw_aload_n dX6_readsCell_76 2 rfl ?_
      refine aw_dup dX6_readsCell_77 rfl ?_
      refine aw_getI dX6_readsCell_78 fl_X6_289 (hT.s 0 (by decide)) (hT.n 0 (by decide)) ?_
      refine aw_topE hC.2.1 ?_
      refine aw_iconst (v := 1) dX6_readsCell_81 (by decide) ?_
      refine aw_iaddN p 1 dX6_readsCell_82 rfl rfl ?_
      refine aw_putI dX6_readsCell_83 fl_X6_289 (Or.inl rfl) (hT.s 0 (by decide)) (hT.n 0 (by decide)) ?_
      refine aw_aload_n dX6_readsCell_86 2 rfl ?_
      refine aw_getR (b := 4) dX6_readsCell_87 fl_X6_20 rfl (((sT.I A 0 24 (nI (p + 1))).TR hT).s 0 (by decide)) (((sT.I A 0 24 (nI (p + 1))).TR hT).n 0 (by decide)) (((sT.I A 0 24 (nI (p + 1))).TR hT).r 3) ?_
      refine aw_iload dX6_readsCell_90 0 rfl ?_
      refine aw_iload_n dX6_readsCell_92 1 rfl ?_
      refine aw_iastN ((12 * (12 + t)) + j) dX6_readsCell_93 (((sT.I A 0 24 (nI (p + 1))).TR hT).s 4 (by decide)) (((sT.I A 0 24 (nI (p + 1))).TR hT).n 4 (by decide)) rfl (by omega) (by first | decide | omega) ?_
      refine aw_iload_n dX6_readsCell_94 1 rfl ?_
      refine aw_bipush (v := 8) dX6_readsCell_95 (by decide) ?_
      refine aw_icmp_geN (B p) 8 115 dX6_readsCell_97 (by decide) rfl rfl (by omega) (by omega) (fun c3 => ?_) (fun c3 => absurd (by omega) c3)
      refine aw_iload_n dX6_readsCell_115 1 rfl ?_
      refine aw_bipush (v := 8) dX6_readsCell_116 (by decide) ?_
      refine aw_icmp_neN (B p) 8 135 dX6_readsCell_118 (by decide) rfl rfl (by omega) (by omega) (fun c4 => absurd (by omega) c4) (fun c4 => ?_)
      refine aw_aload_n dX6_readsCell_121 2 rfl ?_
      refine aw_getR (b := 5) dX6_readsCell_122 fl_X6_23 rfl (((sT.I (stI A 0 24 (nI (p + 1))) 4 ((12 * (12 + t)) + j) (nI (B p))).TR ((sT.I A 0 24 (nI (p + 1))).TR hT)).s 0 (by decide)) (((sT.I (stI A 0 24 (nI (p + 1))) 4 ((12 * (12 + t)) + j) (nI (B p))).TR ((sT.I A 0 24 (nI (p + 1))).TR hT)).n 0 (by decide)) (((sT.I (stI A 0 24 (nI (p + 1))) 4 ((12 * (12 + t)) + j) (nI (B p))).TR ((sT.I A 0 24 (nI (p + 1))).TR hT)).r 4) ?_
      refine aw_iload dX6_readsCell_125 0 rfl ?_
      refine aw_aload_n dX6_readsCell_127 2 rfl ?_
      refine aw_callVx [] [.int (nI ((12 * (12 + t)) + j)), .ref 5] hq dX6_readsCell_128 ml_X6_348 im_X6_readsWord (((sT.I (stI A 0 24 (nI (p + 1))) 4 ((12 * (12 + t)) + j) (nI (B p))).TR ((sT.I A 0 24 (nI (p + 1))).TR hT)).s 0 (by decide)) (((sT.I (stI A 0 24 (nI (p + 1))) 4 ((12 * (12 + t)) + j) (nI (B p))).TR ((sT.I A 0 24 (nI (p + 1))).TR hT)).n 0 (by decide)) rfl rfl (dl1 (d := d) (by omega)) rfl rfl (Nat.le_of_ble_eq_true rfl) rfl rfl (Nat.zero_le _) (Nat.zero_le _) (fun r C1 hA1 => ?_)
      obtain ⟨⟨y, rfl⟩, hA1⟩ := hA1
      refine aw_cons ?_
      have hTc := hA1.1.TR hT1
      refine aw_lastN ((12 * (12 + t)) + j) dX6_readsCell_131 (hTc.s 5 (by decide)) (hTc.n 5 (by decide)) rfl (by omega) (by first | decide | omega) ?_
      refine aw_goto 262 dX6_readsCell_132 (by decide) ?_
      refine aw_ret dX6_readsCell_262 rfl (Nat.zero_le _) (Nat.zero_le _) ?_
      exact ⟨rfl, (hF1.e hA1).c (by omega) y, hA1.2.2.2.2⟩
    | ok vp =>
      rw [e] at hq
      refine aw_aload_n dX6_readsCell_0 0 rfl ?_
      refine aw_aload_n dX6_readsCell_1 0 rfl ?_
      refine aw_getI dX6_readsCell_2 fl_X6_289 (hT.s 0 (by decide)) (hT.n 0 (by decide)) ?_
      refine aw_topE hC.2.1 ?_
      refine aw_callVi [.int (nI p)] [] (sp_by (d := d - 1) hD cl) dX6_readsCell_5 ml_X6_292 im_X6_byteAt (hT.s 0 (by decide)) (hT.n 0 (by decide)) rfl rfl (dl1 (d := d) (by omega)) rfl rfl (Nat.le_of_ble_eq_true rfl) rfl rfl (Nat.zero_le _) (Nat.zero_le _) ?_
      refine aw_istore_n [(3, .int (nI (B p))), (0, .ref 0), (1, .int (nI (12 + t))), (2, .int (nI j))] dX6_readsCell_8 (Nat.le_of_ble_eq_true rfl) rfl ?_
      refine aw_aload_n dX6_readsCell_9 1 rfl ?_
      refine aw_aload_n dX6_readsCell_10 1 rfl ?_
      refine aw_getR (b := 1) dX6_readsCell_11 fl_X6_7 rfl (hT.s 0 (by decide)) (hT.n 0 (by decide)) (hT.r 0) ?_
      refine aw_iload_n dX6_readsCell_14 2 rfl ?_
      refine aw_ialdN (12 + t) dX6_readsCell_15 (hT.s 1 (by decide)) (hT.n 1 (by decide)) rfl (by omega) (by first | decide | omega) ?_
      refine aw_topE hk ?_
      refine aw_iload_n dX6_readsCell_16 0 rfl ?_
      refine aw_callVi [.int (nI k), .int (nI (B p))] [] (sp_X6_mayStand (d := d - 1) (by omega) (nI k) (nI (B p)) hT) dX6_readsCell_17 ml_X6_342 im_X6_mayStand (hT.s 0 (by decide)) (hT.n 0 (by decide)) rfl rfl (dl1 (d := d) (by omega)) rfl rfl (Nat.le_of_ble_eq_true rfl) rfl rfl (Nat.zero_le _) (Nat.zero_le _) ?_
      refine aw_if_ne 32 dX6_readsCell_20 (by decide) (fun c1 => ?_) (fun c1 => absurd c1 (bz_n0.mpr hms))
      refine aw_bipush (v := 12) dX6_readsCell_32 (by decide) ?_
      refine aw_iload_n dX6_readsCell_34 2 rfl ?_
      refine aw_imulN 12 (12 + t) dX6_readsCell_35 rfl rfl ?_
      refine aw_iload_n dX6_readsCell_36 3 rfl ?_
      refine aw_iaddN (12 * (12 + t)) j dX6_readsCell_37 rfl rfl ?_
      refine aw_istore [(4, .int (nI ((12 * (12 + t)) + j))), (3, .int (nI (B p))), (0, .ref 0), (1, .int (nI (12 + t))), (2, .int (nI j))] dX6_readsCell_38 (Nat.le_of_ble_eq_true rfl) rfl ?_
      refine aw_iload_n dX6_readsCell_40 1 rfl ?_
      refine aw_callSi [.int (nI (B p))] [] (sp_X6_isRowTag (d := d - 1) (by omega) (nI (B p))) dX6_readsCell_41 ml_X6_339 sm_X6_isRowTag rfl (dl1 (d := d) (by omega)) rfl rfl (Nat.le_of_ble_eq_true rfl) rfl rfl (Nat.zero_le _) (Nat.zero_le _) ?_
      refine aw_if_eq 76 dX6_readsCell_44 (by decide) (fun c2 => ?_) (fun c2 => absurd (bz_0.mpr htg) c2)
      refine aw_aload_n dX6_readsCell_76 2 rfl ?_
      refine aw_dup dX6_readsCell_77 rfl ?_
      refine aw_getI dX6_readsCell_78 fl_X6_289 (hT.s 0 (by decide)) (hT.n 0 (by decide)) ?_
      refine aw_topE hC.2.1 ?_
      refine aw_iconst (v := 1) dX6_readsCell_81 (by decide) ?_
      refine aw_iaddN p 1 dX6_readsCell_82 rfl rfl ?_
      refine aw_putI dX6_readsCell_83 fl_X6_289 (Or.inl rfl) (hT.s 0 (by decide)) (hT.n 0 (by decide)) ?_
      refine aw_aload_n dX6_readsCell_86 2 rfl ?_
      refine aw_getR (b := 4) dX6_readsCell_87 fl_X6_20 rfl (((sT.I A 0 24 (nI (p + 1))).TR hT).s 0 (by decide)) (((sT.I A 0 24 (nI (p + 1))).TR hT).n 0 (by decide)) (((sT.I A 0 24 (nI (p + 1))).TR hT).r 3) ?_
      refine aw_iload dX6_readsCell_90 0 rfl ?_
      refine aw_iload_n dX6_readsCell_92 1 rfl ?_
      refine aw_iastN ((12 * (12 + t)) + j) dX6_readsCell_93 (((sT.I A 0 24 (nI (p + 1))).TR hT).s 4 (by decide)) (((sT.I A 0 24 (nI (p + 1))).TR hT).n 4 (by decide)) rfl (by omega) (by first | decide | omega) ?_
      refine aw_iload_n dX6_readsCell_94 1 rfl ?_
      refine aw_bipush (v := 8) dX6_readsCell_95 (by decide) ?_
      refine aw_icmp_geN (B p) 8 115 dX6_readsCell_97 (by decide) rfl rfl (by omega) (by omega) (fun c3 => ?_) (fun c3 => absurd (by omega) c3)
      refine aw_iload_n dX6_readsCell_115 1 rfl ?_
      refine aw_bipush (v := 8) dX6_readsCell_116 (by decide) ?_
      refine aw_icmp_neN (B p) 8 135 dX6_readsCell_118 (by decide) rfl rfl (by omega) (by omega) (fun c4 => absurd (by omega) c4) (fun c4 => ?_)
      refine aw_aload_n dX6_readsCell_121 2 rfl ?_
      refine aw_getR (b := 5) dX6_readsCell_122 fl_X6_23 rfl (((sT.I (stI A 0 24 (nI (p + 1))) 4 ((12 * (12 + t)) + j) (nI (B p))).TR ((sT.I A 0 24 (nI (p + 1))).TR hT)).s 0 (by decide)) (((sT.I (stI A 0 24 (nI (p + 1))) 4 ((12 * (12 + t)) + j) (nI (B p))).TR ((sT.I A 0 24 (nI (p + 1))).TR hT)).n 0 (by decide)) (((sT.I (stI A 0 24 (nI (p + 1))) 4 ((12 * (12 + t)) + j) (nI (B p))).TR ((sT.I A 0 24 (nI (p + 1))).TR hT)).r 4) ?_
      refine aw_iload dX6_readsCell_125 0 rfl ?_
      refine aw_aload_n dX6_readsCell_127 2 rfl ?_
      refine aw_callVl [] [.int (nI ((12 * (12 + t)) + j)), .ref 5] hq dX6_readsCell_128 ml_X6_348 im_X6_readsWord (((sT.I (stI A 0 24 (nI (p + 1))) 4 ((12 * (12 + t)) + j) (nI (B p))).TR ((sT.I A 0 24 (nI (p + 1))).TR hT)).s 0 (by decide)) (((sT.I (stI A 0 24 (nI (p + 1))) 4 ((12 * (12 + t)) + j) (nI (B p))).TR ((sT.I A 0 24 (nI (p + 1))).TR hT)).n 0 (by decide)) rfl rfl (dl1 (d := d) (by omega)) rfl rfl (Nat.le_of_ble_eq_true rfl) rfl rfl (Nat.zero_le _) (Nat.zero_le _) ?_
      refine aw_lastN ((12 * (12 + t)) + j) dX6_readsCell_131 (((sT.I (stI (stI A 0 24 (nI (p + 1))) 4 (12 * (12 + t) + j) (nI (B p))) 0 24 (nI vp.2)).TR hT1).s 5 (by decide)) (((sT.I (stI (stI A 0 24 (nI (p + 1))) 4 (12 * (12 + t) + j) (nI (B p))) 0 24 (nI vp.2)).TR hT1).n 5 (by decide)) rfl (by omega) (by first | decide | omega) ?_
      refine aw_goto 262 dX6_readsCell_132 (by decide) ?_
      refine aw_ret dX6_readsCell_262 rfl (Nat.zero_le _) (Nat.zero_le _) ?_
      have q := hC.cel (j := j) (w := B p) ht (by omega) (by omega) vp.1 vp.2
      rw [show vR (B p) vp.1 = vp.1 from if_neg (by omega)] at q
      exact ⟨rfl, q, (hsk.t (SK_i _ (nI vp.2) (by decide))).t (SK_l _ _ _)⟩
  · rw [if_neg (by omega), if_pos c]
    unfold pBead
    by_cases k11 : k = 11
    · rw [if_pos k11]
      by_cases hc0 : p + 1 < L ∧ 3 ≤ B (p + 1) ∧ B (p + 1) < 6
      · rw [if_pos hc0]
        have hc1 : p + 1 < L ∧ 3 ≤ B (p + 1) ∧ B (p + 1) ≤ 5 := by omega
        have hb1 := (hD.2.2.2 (p + 1) hc0.1).2
        refine aw_aload_n dX6_readsCell_0 0 rfl ?_
        refine aw_aload_n dX6_readsCell_1 0 rfl ?_
        refine aw_getI dX6_readsCell_2 fl_X6_289 (hT.s 0 (by decide)) (hT.n 0 (by decide)) ?_
        refine aw_topE hC.2.1 ?_
        refine aw_callVi [.int (nI p)] [] (sp_by (d := d - 1) hD cl) dX6_readsCell_5 ml_X6_292 im_X6_byteAt (hT.s 0 (by decide)) (hT.n 0 (by decide)) rfl rfl (dl1 (d := d) (by omega)) rfl rfl (Nat.le_of_ble_eq_true rfl) rfl rfl (Nat.zero_le _) (Nat.zero_le _) ?_
        refine aw_istore_n [(3, .int (nI (B p))), (0, .ref 0), (1, .int (nI (12 + t))), (2, .int (nI j))] dX6_readsCell_8 (Nat.le_of_ble_eq_true rfl) rfl ?_
        refine aw_aload_n dX6_readsCell_9 1 rfl ?_
        refine aw_aload_n dX6_readsCell_10 1 rfl ?_
        refine aw_getR (b := 1) dX6_readsCell_11 fl_X6_7 rfl (hT.s 0 (by decide)) (hT.n 0 (by decide)) (hT.r 0) ?_
        refine aw_iload_n dX6_readsCell_14 2 rfl ?_
        refine aw_ialdN (12 + t) dX6_readsCell_15 (hT.s 1 (by decide)) (hT.n 1 (by decide)) rfl (by omega) (by first | decide | omega) ?_
        refine aw_topE hk ?_
        refine aw_iload_n dX6_readsCell_16 0 rfl ?_
        refine aw_callVi [.int (nI k), .int (nI (B p))] [] (sp_X6_mayStand (d := d - 1) (by omega) (nI k) (nI (B p)) hT) dX6_readsCell_17 ml_X6_342 im_X6_mayStand (hT.s 0 (by decide)) (hT.n 0 (by decide)) rfl rfl (dl1 (d := d) (by omega)) rfl rfl (Nat.le_of_ble_eq_true rfl) rfl rfl (Nat.zero_le _) (Nat.zero_le _) ?_
        refine aw_if_ne 32 dX6_readsCell_20 (by decide) (fun c1 => ?_) (fun c1 => absurd c1 (bz_n0.mpr hms))
        refine aw_bipush (v := 12) dX6_readsCell_32 (by decide) ?_
        refine aw_iload_n dX6_readsCell_34 2 rfl ?_
        refine aw_imulN 12 (12 + t) dX6_readsCell_35 rfl rfl ?_
        refine aw_iload_n dX6_readsCell_36 3 rfl ?_
        refine aw_iaddN (12 * (12 + t)) j dX6_readsCell_37 rfl rfl ?_
        refine aw_istore [(4, .int (nI ((12 * (12 + t)) + j))), (3, .int (nI (B p))), (0, .ref 0), (1, .int (nI (12 + t))), (2, .int (nI j))] dX6_readsCell_38 (Nat.le_of_ble_eq_true rfl) rfl ?_
        refine aw_iload_n dX6_readsCell_40 1 rfl ?_
        refine aw_callSi [.int (nI (B p))] [] (sp_X6_isRowTag (d := d - 1) (by omega) (nI (B p))) dX6_readsCell_41 ml_X6_339 sm_X6_isRowTag rfl (dl1 (d := d) (by omega)) rfl rfl (Nat.le_of_ble_eq_true rfl) rfl rfl (Nat.zero_le _) (Nat.zero_le _) ?_
        refine aw_if_eq 76 dX6_readsCell_44 (by decide) (fun c2 => ?_) (fun c2 => absurd (bz_0.mpr htg) c2)
        refine aw_aload_n dX6_readsCell_76 2 rfl ?_
        refine aw_dup dX6_readsCell_77 rfl ?_
        refine aw_getI dX6_readsCell_78 fl_X6_289 (hT.s 0 (by decide)) (hT.n 0 (by decide)) ?_
        refine aw_topE hC.2.1 ?_
        refine aw_iconst (v := 1) dX6_readsCell_81 (by decide) ?_
        refine aw_iaddN p 1 dX6_readsCell_82 rfl rfl ?_
        refine aw_putI dX6_readsCell_83 fl_X6_289 (Or.inl rfl) (hT.s 0 (by decide)) (hT.n 0 (by decide)) ?_
        refine aw_aload_n dX6_readsCell_86 2 rfl ?_
        refine aw_getR (b := 4) dX6_readsCell_87 fl_X6_20 rfl (((sT.I A 0 24 (nI (p + 1))).TR hT).s 0 (by decide)) (((sT.I A 0 24 (nI (p + 1))).TR hT).n 0 (by decide)) (((sT.I A 0 24 (nI (p + 1))).TR hT).r 3) ?_
        refine aw_iload dX6_readsCell_90 0 rfl ?_
        refine aw_iload_n dX6_readsCell_92 1 rfl ?_
        refine aw_iastN ((12 * (12 + t)) + j) dX6_readsCell_93 (((sT.I A 0 24 (nI (p + 1))).TR hT).s 4 (by decide)) (((sT.I A 0 24 (nI (p + 1))).TR hT).n 4 (by decide)) rfl (by omega) (by first | decide | omega) ?_
        refine aw_iload_n dX6_readsCell_94 1 rfl ?_
        refine aw_bipush (v := 8) dX6_readsCell_95 (by decide) ?_
        refine aw_icmp_geN (B p) 8 115 dX6_readsCell_97 (by decide) rfl rfl (by omega) (by omega) (fun c3 => ?_) (fun c3 => absurd (by omega) c3)
        refine aw_iload_n dX6_readsCell_115 1 rfl ?_
        refine aw_bipush (v := 8) dX6_readsCell_116 (by decide) ?_
        refine aw_icmp_neN (B p) 8 135 dX6_readsCell_118 (by decide) rfl rfl (by omega) (by omega) (fun c4 => ?_) (fun c4 => absurd c4 (by omega))
        refine aw_iload_n dX6_readsCell_135 1 rfl ?_
        refine aw_bipush (v := 9) dX6_readsCell_136 (by decide) ?_
        refine aw_icmp_neN (B p) 9 173 dX6_readsCell_138 (by decide) rfl rfl (by omega) (by omega) (fun c5 => absurd (by omega) c5) (fun c5 => ?_)
        refine aw_aload_n dX6_readsCell_141 2 rfl ?_
        refine aw_getR (b := 5) dX6_readsCell_142 fl_X6_23 rfl (((sT.I (stI A 0 24 (nI (p + 1))) 4 ((12 * (12 + t)) + j) (nI (B p))).TR ((sT.I A 0 24 (nI (p + 1))).TR hT)).s 0 (by decide)) (((sT.I (stI A 0 24 (nI (p + 1))) 4 ((12 * (12 + t)) + j) (nI (B p))).TR ((sT.I A 0 24 (nI (p + 1))).TR hT)).n 0 (by decide)) (((sT.I (stI A 0 24 (nI (p + 1))) 4 ((12 * (12 + t)) + j) (nI (B p))).TR ((sT.I A 0 24 (nI (p + 1))).TR hT)).r 4) ?_
        refine aw_iload dX6_readsCell_145 0 rfl ?_
        refine aw_aload_n dX6_readsCell_147 2 rfl ?_
        refine aw_aload_n dX6_readsCell_148 2 rfl ?_
        refine aw_getR (b := 1) dX6_readsCell_149 fl_X6_7 rfl (((sT.I (stI A 0 24 (nI (p + 1))) 4 ((12 * (12 + t)) + j) (nI (B p))).TR ((sT.I A 0 24 (nI (p + 1))).TR hT)).s 0 (by decide)) (((sT.I (stI A 0 24 (nI (p + 1))) 4 ((12 * (12 + t)) + j) (nI (B p))).TR ((sT.I A 0 24 (nI (p + 1))).TR hT)).n 0 (by decide)) (((sT.I (stI A 0 24 (nI (p + 1))) 4 ((12 * (12 + t)) + j) (nI (B p))).TR ((sT.I A 0 24 (nI (p + 1))).TR hT)).r 0) ?_
        refine aw_iload_n dX6_readsCell_152 3 rfl ?_
        refine aw_ialdN (12 + t) dX6_readsCell_153 (((sT.I (stI A 0 24 (nI (p + 1))) 4 ((12 * (12 + t)) + j) (nI (B p))).TR ((sT.I A 0 24 (nI (p + 1))).TR hT)).s 1 (by decide)) (((sT.I (stI A 0 24 (nI (p + 1))) 4 ((12 * (12 + t)) + j) (nI (B p))).TR ((sT.I A 0 24 (nI (p + 1))).TR hT)).n 1 (by decide)) rfl (by omega) (by first | decide | omega) ?_
        refine aw_topE ((congrFun (mI_stI_c _ _ _ (by decide)) (12 + t)).trans ((congrFun (mI_stI_c _ _ _ (by decide)) (12 + t)).trans hk)) ?_
        refine aw_bipush (v := 11) dX6_readsCell_154 (by decide) ?_
        refine aw_icmp_neN k 11 163 dX6_readsCell_156 (by decide) rfl rfl (by omega) (by omega) (fun c6 => absurd k11 c6) (fun c6 => ?_)
        refine aw_iconst (v := 3) dX6_readsCell_159 (by decide) ?_
        refine aw_goto 164 dX6_readsCell_160 (by decide) ?_
        refine aw_iconst (v := 5) dX6_readsCell_164 (by decide) ?_
        refine aw_callVi [.int 3, .int 5] [.int (nI ((12 * (12 + t)) + j)), .ref 5] (sp_p1k (d := d - 1) (by omega) 3 5 hD1 hp1 (by omega) hf1 (by decide) (by decide) hc1) dX6_readsCell_165 ml_X6_320 im_X6_part1 (((sT.I (stI A 0 24 (nI (p + 1))) 4 ((12 * (12 + t)) + j) (nI (B p))).TR ((sT.I A 0 24 (nI (p + 1))).TR hT)).s 0 (by decide)) (((sT.I (stI A 0 24 (nI (p + 1))) 4 ((12 * (12 + t)) + j) (nI (B p))).TR ((sT.I A 0 24 (nI (p + 1))).TR hT)).n 0 (by decide)) rfl rfl (dl1 (d := d) (by omega)) rfl rfl (Nat.le_of_ble_eq_true rfl) rfl rfl (Nat.zero_le _) (Nat.zero_le _) ?_
        refine aw_i2lN (B (p + 1)) dX6_readsCell_168 rfl (by omega) ?_
        refine aw_lastN ((12 * (12 + t)) + j) dX6_readsCell_169 (((sT.I (stI (stI A 0 24 (nI (p + 1))) 4 (12 * (12 + t) + j) (nI (B p))) 0 24 (nI (p + 1 + 1))).TR hT1).s 5 (by decide)) (((sT.I (stI (stI A 0 24 (nI (p + 1))) 4 (12 * (12 + t) + j) (nI (B p))) 0 24 (nI (p + 1 + 1))).TR hT1).n 5 (by decide)) rfl (by omega) (by first | decide | omega) ?_
        refine aw_goto 262 dX6_readsCell_170 (by decide) ?_
        refine aw_ret dX6_readsCell_262 rfl (Nat.zero_le _) (Nat.zero_le _) ?_
        have q := hC.cel (j := j) (w := B p) ht (by omega) (by omega) (lN (B (p + 1))) (p + 1 + 1)
        rw [show vR (B p) (lN (B (p + 1))) = lN (B (p + 1)) from if_neg (by omega)] at q
        exact ⟨rfl, q, (hsk.t (SK_i _ (nI (p + 1 + 1)) (by decide))).t (SK_l _ _ _)⟩
      · rw [if_neg hc0]
        have hc1 : ¬ (p + 1 < L ∧ 3 ≤ B (p + 1) ∧ B (p + 1) ≤ 5) := by omega
        refine aw_aload_n dX6_readsCell_0 0 rfl ?_
        refine aw_aload_n dX6_readsCell_1 0 rfl ?_
        refine aw_getI dX6_readsCell_2 fl_X6_289 (hT.s 0 (by decide)) (hT.n 0 (by decide)) ?_
        refine aw_topE hC.2.1 ?_
        refine aw_callVi [.int (nI p)] [] (sp_by (d := d - 1) hD cl) dX6_readsCell_5 ml_X6_292 im_X6_byteAt (hT.s 0 (by decide)) (hT.n 0 (by decide)) rfl rfl (dl1 (d := d) (by omega)) rfl rfl (Nat.le_of_ble_eq_true rfl) rfl rfl (Nat.zero_le _) (Nat.zero_le _) ?_
        refine aw_istore_n [(3, .int (nI (B p))), (0, .ref 0), (1, .int (nI (12 + t))), (2, .int (nI j))] dX6_readsCell_8 (Nat.le_of_ble_eq_true rfl) rfl ?_
        refine aw_aload_n dX6_readsCell_9 1 rfl ?_
        refine aw_aload_n dX6_readsCell_10 1 rfl ?_
        refine aw_getR (b := 1) dX6_readsCell_11 fl_X6_7 rfl (hT.s 0 (by decide)) (hT.n 0 (by decide)) (hT.r 0) ?_
        refine aw_iload_n dX6_readsCell_14 2 rfl ?_
        refine aw_ialdN (12 + t) dX6_readsCell_15 (hT.s 1 (by decide)) (hT.n 1 (by decide)) rfl (by omega) (by first | decide | omega) ?_
        refine aw_topE hk ?_
        refine aw_iload_n dX6_readsCell_16 0 rfl ?_
        refine aw_callVi [.int (nI k), .int (nI (B p))] [] (sp_X6_mayStand (d := d - 1) (by omega) (nI k) (nI (B p)) hT) dX6_readsCell_17 ml_X6_342 im_X6_mayStand (hT.s 0 (by decide)) (hT.n 0 (by decide)) rfl rfl (dl1 (d := d) (by omega)) rfl rfl (Nat.le_of_ble_eq_true rfl) rfl rfl (Nat.zero_le _) (Nat.zero_le _) ?_
        refine aw_if_ne 32 dX6_readsCell_20 (by decide) (fun c1 => ?_) (fun c1 => absurd c1 (bz_n0.mpr hms))
        refine aw_bipush (v := 12) dX6_readsCell_32 (by decide) ?_
        refine aw_iload_n dX6_readsCell_34 2 rfl ?_
        refine aw_imulN 12 (12 + t) dX6_readsCell_35 rfl rfl ?_
        refine aw_iload_n dX6_readsCell_36 3 rfl ?_
        refine aw_iaddN (12 * (12 + t)) j dX6_readsCell_37 rfl rfl ?_
        refine aw_istore [(4, .int (nI ((12 * (12 + t)) + j))), (3, .int (nI (B p))), (0, .ref 0), (1, .int (nI (12 + t))), (2, .int (nI j))] dX6_readsCell_38 (Nat.le_of_ble_eq_true rfl) rfl ?_
        refine aw_iload_n dX6_readsCell_40 1 rfl ?_
        refine aw_callSi [.int (nI (B p))] [] (sp_X6_isRowTag (d := d - 1) (by omega) (nI (B p))) dX6_readsCell_41 ml_X6_339 sm_X6_isRowTag rfl (dl1 (d := d) (by omega)) rfl rfl (Nat.le_of_ble_eq_true rfl) rfl rfl (Nat.zero_le _) (Nat.zero_le _) ?_
        refine aw_if_eq 76 dX6_readsCell_44 (by decide) (fun c2 => ?_) (fun c2 => absurd (bz_0.mpr htg) c2)
        refine aw_aload_n dX6_readsCell_76 2 rfl ?_
        refine aw_dup dX6_readsCell_77 rfl ?_
        refine aw_getI dX6_readsCell_78 fl_X6_289 (hT.s 0 (by decide)) (hT.n 0 (by decide)) ?_
        refine aw_topE hC.2.1 ?_
        refine aw_iconst (v := 1) dX6_readsCell_81 (by decide) ?_
        refine aw_iaddN p 1 dX6_readsCell_82 rfl rfl ?_
        refine aw_putI dX6_readsCell_83 fl_X6_289 (Or.inl rfl) (hT.s 0 (by decide)) (hT.n 0 (by decide)) ?_
        refine aw_aload_n dX6_readsCell_86 2 rfl ?_
        refine aw_getR (b := 4) dX6_readsCell_87 fl_X6_20 rfl (((sT.I A 0 24 (nI (p + 1))).TR hT).s 0 (by decide)) (((sT.I A 0 24 (nI (p + 1))).TR hT).n 0 (by decide)) (((sT.I A 0 24 (nI (p + 1))).TR hT).r 3) ?_
        refine aw_iload dX6_readsCell_90 0 rfl ?_
        refine aw_iload_n dX6_readsCell_92 1 rfl ?_
        refine aw_iastN ((12 * (12 + t)) + j) dX6_readsCell_93 (((sT.I A 0 24 (nI (p + 1))).TR hT).s 4 (by decide)) (((sT.I A 0 24 (nI (p + 1))).TR hT).n 4 (by decide)) rfl (by omega) (by first | decide | omega) ?_
        refine aw_iload_n dX6_readsCell_94 1 rfl ?_
        refine aw_bipush (v := 8) dX6_readsCell_95 (by decide) ?_
        refine aw_icmp_geN (B p) 8 115 dX6_readsCell_97 (by decide) rfl rfl (by omega) (by omega) (fun c3 => ?_) (fun c3 => absurd (by omega) c3)
        refine aw_iload_n dX6_readsCell_115 1 rfl ?_
        refine aw_bipush (v := 8) dX6_readsCell_116 (by decide) ?_
        refine aw_icmp_neN (B p) 8 135 dX6_readsCell_118 (by decide) rfl rfl (by omega) (by omega) (fun c4 => ?_) (fun c4 => absurd c4 (by omega))
        refine aw_iload_n dX6_readsCell_135 1 rfl ?_
        refine aw_bipush (v := 9) dX6_readsCell_136 (by decide) ?_
        refine aw_icmp_neN (B p) 9 173 dX6_readsCell_138 (by decide) rfl rfl (by omega) (by omega) (fun c5 => absurd (by omega) c5) (fun c5 => ?_)
        refine aw_aload_n dX6_readsCell_141 2 rfl ?_
        refine aw_getR (b := 5) dX6_readsCell_142 fl_X6_23 rfl (((sT.I (stI A 0 24 (nI (p + 1))) 4 ((12 * (12 + t)) + j) (nI (B p))).TR ((sT.I A 0 24 (nI (p + 1))).TR hT)).s 0 (by decide)) (((sT.I (stI A 0 24 (nI (p + 1))) 4 ((12 * (12 + t)) + j) (nI (B p))).TR ((sT.I A 0 24 (nI (p + 1))).TR hT)).n 0 (by decide)) (((sT.I (stI A 0 24 (nI (p + 1))) 4 ((12 * (12 + t)) + j) (nI (B p))).TR ((sT.I A 0 24 (nI (p + 1))).TR hT)).r 4) ?_
        refine aw_iload dX6_readsCell_145 0 rfl ?_
        refine aw_aload_n dX6_readsCell_147 2 rfl ?_
        refine aw_aload_n dX6_readsCell_148 2 rfl ?_
        refine aw_getR (b := 1) dX6_readsCell_149 fl_X6_7 rfl (((sT.I (stI A 0 24 (nI (p + 1))) 4 ((12 * (12 + t)) + j) (nI (B p))).TR ((sT.I A 0 24 (nI (p + 1))).TR hT)).s 0 (by decide)) (((sT.I (stI A 0 24 (nI (p + 1))) 4 ((12 * (12 + t)) + j) (nI (B p))).TR ((sT.I A 0 24 (nI (p + 1))).TR hT)).n 0 (by decide)) (((sT.I (stI A 0 24 (nI (p + 1))) 4 ((12 * (12 + t)) + j) (nI (B p))).TR ((sT.I A 0 24 (nI (p + 1))).TR hT)).r 0) ?_
        refine aw_iload_n dX6_readsCell_152 3 rfl ?_
        refine aw_ialdN (12 + t) dX6_readsCell_153 (((sT.I (stI A 0 24 (nI (p + 1))) 4 ((12 * (12 + t)) + j) (nI (B p))).TR ((sT.I A 0 24 (nI (p + 1))).TR hT)).s 1 (by decide)) (((sT.I (stI A 0 24 (nI (p + 1))) 4 ((12 * (12 + t)) + j) (nI (B p))).TR ((sT.I A 0 24 (nI (p + 1))).TR hT)).n 1 (by decide)) rfl (by omega) (by first | decide | omega) ?_
        refine aw_topE ((congrFun (mI_stI_c _ _ _ (by decide)) (12 + t)).trans ((congrFun (mI_stI_c _ _ _ (by decide)) (12 + t)).trans hk)) ?_
        refine aw_bipush (v := 11) dX6_readsCell_154 (by decide) ?_
        refine aw_icmp_neN k 11 163 dX6_readsCell_156 (by decide) rfl rfl (by omega) (by omega) (fun c6 => absurd k11 c6) (fun c6 => ?_)
        refine aw_iconst (v := 3) dX6_readsCell_159 (by decide) ?_
        refine aw_goto 164 dX6_readsCell_160 (by decide) ?_
        refine aw_iconst (v := 5) dX6_readsCell_164 (by decide) ?_
        refine aw_callVi [.int 3, .int 5] [.int (nI ((12 * (12 + t)) + j)), .ref 5] (sp_p1f (d := d - 1) (by omega) 3 5 hD1 hp1 (by omega) hf1 (by decide) (by decide) hc1) dX6_readsCell_165 ml_X6_320 im_X6_part1 (((sT.I (stI A 0 24 (nI (p + 1))) 4 ((12 * (12 + t)) + j) (nI (B p))).TR ((sT.I A 0 24 (nI (p + 1))).TR hT)).s 0 (by decide)) (((sT.I (stI A 0 24 (nI (p + 1))) 4 ((12 * (12 + t)) + j) (nI (B p))).TR ((sT.I A 0 24 (nI (p + 1))).TR hT)).n 0 (by decide)) rfl rfl (dl1 (d := d) (by omega)) rfl rfl (Nat.le_of_ble_eq_true rfl) rfl rfl (Nat.zero_le _) (Nat.zero_le _) ?_
        refine aw_i2l dX6_readsCell_168 ?_
        refine aw_lastN ((12 * (12 + t)) + j) dX6_readsCell_169 (((sT.I (stI (stI A 0 24 (nI (p + 1))) 4 (12 * (12 + t) + j) (nI (B p))) 0 25 (nI (p + 1))).TR hT1).s 5 (by decide)) (((sT.I (stI (stI A 0 24 (nI (p + 1))) 4 (12 * (12 + t) + j) (nI (B p))) 0 25 (nI (p + 1))).TR hT1).n 5 (by decide)) rfl (by omega) (by first | decide | omega) ?_
        refine aw_goto 262 dX6_readsCell_170 (by decide) ?_
        refine aw_ret dX6_readsCell_262 rfl (Nat.zero_le _) (Nat.zero_le _) ?_
        exact ⟨rfl, (hF1.i 25 (nI (p + 1)) (by decide)).c (by omega) _, mI_stI_v (stI (stI A 0 24 (nI (p + 1))) 4 (12 * (12 + t) + j) (nI (B p))) 0 25 (nI (p + 1))⟩
    · rw [if_neg k11]
      by_cases hc0 : p + 1 < L ∧ 0 ≤ B (p + 1) ∧ B (p + 1) < 6
      · rw [if_pos hc0]
        have hc1 : p + 1 < L ∧ 0 ≤ B (p + 1) ∧ B (p + 1) ≤ 5 := by omega
        have hb1 := (hD.2.2.2 (p + 1) hc0.1).2
        refine aw_aload_n dX6_readsCell_0 0 rfl ?_
        refine aw_aload_n dX6_readsCell_1 0 rfl ?_
        refine aw_getI dX6_readsCell_2 fl_X6_289 (hT.s 0 (by decide)) (hT.n 0 (by decide)) ?_
        refine aw_topE hC.2.1 ?_
        refine aw_callVi [.int (nI p)] [] (sp_by (d := d - 1) hD cl) dX6_readsCell_5 ml_X6_292 im_X6_byteAt (hT.s 0 (by decide)) (hT.n 0 (by decide)) rfl rfl (dl1 (d := d) (by omega)) rfl rfl (Nat.le_of_ble_eq_true rfl) rfl rfl (Nat.zero_le _) (Nat.zero_le _) ?_
        refine aw_istore_n [(3, .int (nI (B p))), (0, .ref 0), (1, .int (nI (12 + t))), (2, .int (nI j))] dX6_readsCell_8 (Nat.le_of_ble_eq_true rfl) rfl ?_
        refine aw_aload_n dX6_readsCell_9 1 rfl ?_
        refine aw_aload_n dX6_readsCell_10 1 rfl ?_
        refine aw_getR (b := 1) dX6_readsCell_11 fl_X6_7 rfl (hT.s 0 (by decide)) (hT.n 0 (by decide)) (hT.r 0) ?_
        refine aw_iload_n dX6_readsCell_14 2 rfl ?_
        refine aw_ialdN (12 + t) dX6_readsCell_15 (hT.s 1 (by decide)) (hT.n 1 (by decide)) rfl (by omega) (by first | decide | omega) ?_
        refine aw_topE hk ?_
        refine aw_iload_n dX6_readsCell_16 0 rfl ?_
        refine aw_callVi [.int (nI k), .int (nI (B p))] [] (sp_X6_mayStand (d := d - 1) (by omega) (nI k) (nI (B p)) hT) dX6_readsCell_17 ml_X6_342 im_X6_mayStand (hT.s 0 (by decide)) (hT.n 0 (by decide)) rfl rfl (dl1 (d := d) (by omega)) rfl rfl (Nat.le_of_ble_eq_true rfl) rfl rfl (Nat.zero_le _) (Nat.zero_le _) ?_
        refine aw_if_ne 32 dX6_readsCell_20 (by decide) (fun c1 => ?_) (fun c1 => absurd c1 (bz_n0.mpr hms))
        refine aw_bipush (v := 12) dX6_readsCell_32 (by decide) ?_
        refine aw_iload_n dX6_readsCell_34 2 rfl ?_
        refine aw_imulN 12 (12 + t) dX6_readsCell_35 rfl rfl ?_
        refine aw_iload_n dX6_readsCell_36 3 rfl ?_
        refine aw_iaddN (12 * (12 + t)) j dX6_readsCell_37 rfl rfl ?_
        refine aw_istore [(4, .int (nI ((12 * (12 + t)) + j))), (3, .int (nI (B p))), (0, .ref 0), (1, .int (nI (12 + t))), (2, .int (nI j))] dX6_readsCell_38 (Nat.le_of_ble_eq_true rfl) rfl ?_
        refine aw_iload_n dX6_readsCell_40 1 rfl ?_
        refine aw_callSi [.int (nI (B p))] [] (sp_X6_isRowTag (d := d - 1) (by omega) (nI (B p))) dX6_readsCell_41 ml_X6_339 sm_X6_isRowTag rfl (dl1 (d := d) (by omega)) rfl rfl (Nat.le_of_ble_eq_true rfl) rfl rfl (Nat.zero_le _) (Nat.zero_le _) ?_
        refine aw_if_eq 76 dX6_readsCell_44 (by decide) (fun c2 => ?_) (fun c2 => absurd (bz_0.mpr htg) c2)
        refine aw_aload_n dX6_readsCell_76 2 rfl ?_
        refine aw_dup dX6_readsCell_77 rfl ?_
        refine aw_getI dX6_readsCell_78 fl_X6_289 (hT.s 0 (by decide)) (hT.n 0 (by decide)) ?_
        refine aw_topE hC.2.1 ?_
        refine aw_iconst (v := 1) dX6_readsCell_81 (by decide) ?_
        refine aw_iaddN p 1 dX6_readsCell_82 rfl rfl ?_
        refine aw_putI dX6_readsCell_83 fl_X6_289 (Or.inl rfl) (hT.s 0 (by decide)) (hT.n 0 (by decide)) ?_
        refine aw_aload_n dX6_readsCell_86 2 rfl ?_
        refine aw_getR (b := 4) dX6_readsCell_87 fl_X6_20 rfl (((sT.I A 0 24 (nI (p + 1))).TR hT).s 0 (by decide)) (((sT.I A 0 24 (nI (p + 1))).TR hT).n 0 (by decide)) (((sT.I A 0 24 (nI (p + 1))).TR hT).r 3) ?_
        refine aw_iload dX6_readsCell_90 0 rfl ?_
        refine aw_iload_n dX6_readsCell_92 1 rfl ?_
        refine aw_iastN ((12 * (12 + t)) + j) dX6_readsCell_93 (((sT.I A 0 24 (nI (p + 1))).TR hT).s 4 (by decide)) (((sT.I A 0 24 (nI (p + 1))).TR hT).n 4 (by decide)) rfl (by omega) (by first | decide | omega) ?_
        refine aw_iload_n dX6_readsCell_94 1 rfl ?_
        refine aw_bipush (v := 8) dX6_readsCell_95 (by decide) ?_
        refine aw_icmp_geN (B p) 8 115 dX6_readsCell_97 (by decide) rfl rfl (by omega) (by omega) (fun c3 => ?_) (fun c3 => absurd (by omega) c3)
        refine aw_iload_n dX6_readsCell_115 1 rfl ?_
        refine aw_bipush (v := 8) dX6_readsCell_116 (by decide) ?_
        refine aw_icmp_neN (B p) 8 135 dX6_readsCell_118 (by decide) rfl rfl (by omega) (by omega) (fun c4 => ?_) (fun c4 => absurd c4 (by omega))
        refine aw_iload_n dX6_readsCell_135 1 rfl ?_
        refine aw_bipush (v := 9) dX6_readsCell_136 (by decide) ?_
        refine aw_icmp_neN (B p) 9 173 dX6_readsCell_138 (by decide) rfl rfl (by omega) (by omega) (fun c5 => absurd (by omega) c5) (fun c5 => ?_)
        refine aw_aload_n dX6_readsCell_141 2 rfl ?_
        refine aw_getR (b := 5) dX6_readsCell_142 fl_X6_23 rfl (((sT.I (stI A 0 24 (nI (p + 1))) 4 ((12 * (12 + t)) + j) (nI (B p))).TR ((sT.I A 0 24 (nI (p + 1))).TR hT)).s 0 (by decide)) (((sT.I (stI A 0 24 (nI (p + 1))) 4 ((12 * (12 + t)) + j) (nI (B p))).TR ((sT.I A 0 24 (nI (p + 1))).TR hT)).n 0 (by decide)) (((sT.I (stI A 0 24 (nI (p + 1))) 4 ((12 * (12 + t)) + j) (nI (B p))).TR ((sT.I A 0 24 (nI (p + 1))).TR hT)).r 4) ?_
        refine aw_iload dX6_readsCell_145 0 rfl ?_
        refine aw_aload_n dX6_readsCell_147 2 rfl ?_
        refine aw_aload_n dX6_readsCell_148 2 rfl ?_
        refine aw_getR (b := 1) dX6_readsCell_149 fl_X6_7 rfl (((sT.I (stI A 0 24 (nI (p + 1))) 4 ((12 * (12 + t)) + j) (nI (B p))).TR ((sT.I A 0 24 (nI (p + 1))).TR hT)).s 0 (by decide)) (((sT.I (stI A 0 24 (nI (p + 1))) 4 ((12 * (12 + t)) + j) (nI (B p))).TR ((sT.I A 0 24 (nI (p + 1))).TR hT)).n 0 (by decide)) (((sT.I (stI A 0 24 (nI (p + 1))) 4 ((12 * (12 + t)) + j) (nI (B p))).TR ((sT.I A 0 24 (nI (p + 1))).TR hT)).r 0) ?_
        refine aw_iload_n dX6_readsCell_152 3 rfl ?_
        refine aw_ialdN (12 + t) dX6_readsCell_153 (((sT.I (stI A 0 24 (nI (p + 1))) 4 ((12 * (12 + t)) + j) (nI (B p))).TR ((sT.I A 0 24 (nI (p + 1))).TR hT)).s 1 (by decide)) (((sT.I (stI A 0 24 (nI (p + 1))) 4 ((12 * (12 + t)) + j) (nI (B p))).TR ((sT.I A 0 24 (nI (p + 1))).TR hT)).n 1 (by decide)) rfl (by omega) (by first | decide | omega) ?_
        refine aw_topE ((congrFun (mI_stI_c _ _ _ (by decide)) (12 + t)).trans ((congrFun (mI_stI_c _ _ _ (by decide)) (12 + t)).trans hk)) ?_
        refine aw_bipush (v := 11) dX6_readsCell_154 (by decide) ?_
        refine aw_icmp_neN k 11 163 dX6_readsCell_156 (by decide) rfl rfl (by omega) (by omega) (fun c6 => ?_) (fun c6 => absurd c6 k11)
        refine aw_iconst (v := 0) dX6_readsCell_163 (by decide) ?_
        refine aw_iconst (v := 5) dX6_readsCell_164 (by decide) ?_
        refine aw_callVi [.int 0, .int 5] [.int (nI ((12 * (12 + t)) + j)), .ref 5] (sp_p1k (d := d - 1) (by omega) 0 5 hD1 hp1 (by omega) hf1 (by decide) (by decide) hc1) dX6_readsCell_165 ml_X6_320 im_X6_part1 (((sT.I (stI A 0 24 (nI (p + 1))) 4 ((12 * (12 + t)) + j) (nI (B p))).TR ((sT.I A 0 24 (nI (p + 1))).TR hT)).s 0 (by decide)) (((sT.I (stI A 0 24 (nI (p + 1))) 4 ((12 * (12 + t)) + j) (nI (B p))).TR ((sT.I A 0 24 (nI (p + 1))).TR hT)).n 0 (by decide)) rfl rfl (dl1 (d := d) (by omega)) rfl rfl (Nat.le_of_ble_eq_true rfl) rfl rfl (Nat.zero_le _) (Nat.zero_le _) ?_
        refine aw_i2lN (B (p + 1)) dX6_readsCell_168 rfl (by omega) ?_
        refine aw_lastN ((12 * (12 + t)) + j) dX6_readsCell_169 (((sT.I (stI (stI A 0 24 (nI (p + 1))) 4 (12 * (12 + t) + j) (nI (B p))) 0 24 (nI (p + 1 + 1))).TR hT1).s 5 (by decide)) (((sT.I (stI (stI A 0 24 (nI (p + 1))) 4 (12 * (12 + t) + j) (nI (B p))) 0 24 (nI (p + 1 + 1))).TR hT1).n 5 (by decide)) rfl (by omega) (by first | decide | omega) ?_
        refine aw_goto 262 dX6_readsCell_170 (by decide) ?_
        refine aw_ret dX6_readsCell_262 rfl (Nat.zero_le _) (Nat.zero_le _) ?_
        have q := hC.cel (j := j) (w := B p) ht (by omega) (by omega) (lN (B (p + 1))) (p + 1 + 1)
        rw [show vR (B p) (lN (B (p + 1))) = lN (B (p + 1)) from if_neg (by omega)] at q
        exact ⟨rfl, q, (hsk.t (SK_i _ (nI (p + 1 + 1)) (by decide))).t (SK_l _ _ _)⟩
      · rw [if_neg hc0]
        have hc1 : ¬ (p + 1 < L ∧ 0 ≤ B (p + 1) ∧ B (p + 1) ≤ 5) := by omega
        refine aw_aload_n dX6_readsCell_0 0 rfl ?_
        refine aw_aload_n dX6_readsCell_1 0 rfl ?_
        refine aw_getI dX6_readsCell_2 fl_X6_289 (hT.s 0 (by decide)) (hT.n 0 (by decide)) ?_
        refine aw_topE hC.2.1 ?_
        refine aw_callVi [.int (nI p)] [] (sp_by (d := d - 1) hD cl) dX6_readsCell_5 ml_X6_292 im_X6_byteAt (hT.s 0 (by decide)) (hT.n 0 (by decide)) rfl rfl (dl1 (d := d) (by omega)) rfl rfl (Nat.le_of_ble_eq_true rfl) rfl rfl (Nat.zero_le _) (Nat.zero_le _) ?_
        refine aw_istore_n [(3, .int (nI (B p))), (0, .ref 0), (1, .int (nI (12 + t))), (2, .int (nI j))] dX6_readsCell_8 (Nat.le_of_ble_eq_true rfl) rfl ?_
        refine aw_aload_n dX6_readsCell_9 1 rfl ?_
        refine aw_aload_n dX6_readsCell_10 1 rfl ?_
        refine aw_getR (b := 1) dX6_readsCell_11 fl_X6_7 rfl (hT.s 0 (by decide)) (hT.n 0 (by decide)) (hT.r 0) ?_
        refine aw_iload_n dX6_readsCell_14 2 rfl ?_
        refine aw_ialdN (12 + t) dX6_readsCell_15 (hT.s 1 (by decide)) (hT.n 1 (by decide)) rfl (by omega) (by first | decide | omega) ?_
        refine aw_topE hk ?_
        refine aw_iload_n dX6_readsCell_16 0 rfl ?_
        refine aw_callVi [.int (nI k), .int (nI (B p))] [] (sp_X6_mayStand (d := d - 1) (by omega) (nI k) (nI (B p)) hT) dX6_readsCell_17 ml_X6_342 im_X6_mayStand (hT.s 0 (by decide)) (hT.n 0 (by decide)) rfl rfl (dl1 (d := d) (by omega)) rfl rfl (Nat.le_of_ble_eq_true rfl) rfl rfl (Nat.zero_le _) (Nat.zero_le _) ?_
        refine aw_if_ne 32 dX6_readsCell_20 (by decide) (fun c1 => ?_) (fun c1 => absurd c1 (bz_n0.mpr hms))
        refine aw_bipush (v := 12) dX6_readsCell_32 (by decide) ?_
        refine aw_iload_n dX6_readsCell_34 2 rfl ?_
        refine aw_imulN 12 (12 + t) dX6_readsCell_35 rfl rfl ?_
        refine aw_iload_n dX6_readsCell_36 3 rfl ?_
        refine aw_iaddN (12 * (12 + t)) j dX6_readsCell_37 rfl rfl ?_
        refine aw_istore [(4, .int (nI ((12 * (12 + t)) + j))), (3, .int (nI (B p))), (0, .ref 0), (1, .int (nI (12 + t))), (2, .int (nI j))] dX6_readsCell_38 (Nat.le_of_ble_eq_true rfl) rfl ?_
        refine aw_iload_n dX6_readsCell_40 1 rfl ?_
        refine aw_callSi [.int (nI (B p))] [] (sp_X6_isRowTag (d := d - 1) (by omega) (nI (B p))) dX6_readsCell_41 ml_X6_339 sm_X6_isRowTag rfl (dl1 (d := d) (by omega)) rfl rfl (Nat.le_of_ble_eq_true rfl) rfl rfl (Nat.zero_le _) (Nat.zero_le _) ?_
        refine aw_if_eq 76 dX6_readsCell_44 (by decide) (fun c2 => ?_) (fun c2 => absurd (bz_0.mpr htg) c2)
        refine aw_aload_n dX6_readsCell_76 2 rfl ?_
        refine aw_dup dX6_readsCell_77 rfl ?_
        refine aw_getI dX6_readsCell_78 fl_X6_289 (hT.s 0 (by decide)) (hT.n 0 (by decide)) ?_
        refine aw_topE hC.2.1 ?_
        refine aw_iconst (v := 1) dX6_readsCell_81 (by decide) ?_
        refine aw_iaddN p 1 dX6_readsCell_82 rfl rfl ?_
        refine aw_putI dX6_readsCell_83 fl_X6_289 (Or.inl rfl) (hT.s 0 (by decide)) (hT.n 0 (by decide)) ?_
        refine aw_aload_n dX6_readsCell_86 2 rfl ?_
        refine aw_getR (b := 4) dX6_readsCell_87 fl_X6_20 rfl (((sT.I A 0 24 (nI (p + 1))).TR hT).s 0 (by decide)) (((sT.I A 0 24 (nI (p + 1))).TR hT).n 0 (by decide)) (((sT.I A 0 24 (nI (p + 1))).TR hT).r 3) ?_
        refine aw_iload dX6_readsCell_90 0 rfl ?_
        refine aw_iload_n dX6_readsCell_92 1 rfl ?_
        refine aw_iastN ((12 * (12 + t)) + j) dX6_readsCell_93 (((sT.I A 0 24 (nI (p + 1))).TR hT).s 4 (by decide)) (((sT.I A 0 24 (nI (p + 1))).TR hT).n 4 (by decide)) rfl (by omega) (by first | decide | omega) ?_
        refine aw_iload_n dX6_readsCell_94 1 rfl ?_
        refine aw_bipush (v := 8) dX6_readsCell_95 (by decide) ?_
        refine aw_icmp_geN (B p) 8 115 dX6_readsCell_97 (by decide) rfl rfl (by omega) (by omega) (fun c3 => ?_) (fun c3 => absurd (by omega) c3)
        refine aw_iload_n dX6_readsCell_115 1 rfl ?_
        refine aw_bipush (v := 8) dX6_readsCell_116 (by decide) ?_
        refine aw_icmp_neN (B p) 8 135 dX6_readsCell_118 (by decide) rfl rfl (by omega) (by omega) (fun c4 => ?_) (fun c4 => absurd c4 (by omega))
        refine aw_iload_n dX6_readsCell_135 1 rfl ?_
        refine aw_bipush (v := 9) dX6_readsCell_136 (by decide) ?_
        refine aw_icmp_neN (B p) 9 173 dX6_readsCell_138 (by decide) rfl rfl (by omega) (by omega) (fun c5 => absurd (by omega) c5) (fun c5 => ?_)
        refine aw_aload_n dX6_readsCell_141 2 rfl ?_
        refine aw_getR (b := 5) dX6_readsCell_142 fl_X6_23 rfl (((sT.I (stI A 0 24 (nI (p + 1))) 4 ((12 * (12 + t)) + j) (nI (B p))).TR ((sT.I A 0 24 (nI (p + 1))).TR hT)).s 0 (by decide)) (((sT.I (stI A 0 24 (nI (p + 1))) 4 ((12 * (12 + t)) + j) (nI (B p))).TR ((sT.I A 0 24 (nI (p + 1))).TR hT)).n 0 (by decide)) (((sT.I (stI A 0 24 (nI (p + 1))) 4 ((12 * (12 + t)) + j) (nI (B p))).TR ((sT.I A 0 24 (nI (p + 1))).TR hT)).r 4) ?_
        refine aw_iload dX6_readsCell_145 0 rfl ?_
        refine aw_aload_n dX6_readsCell_147 2 rfl ?_
        refine aw_aload_n dX6_readsCell_148 2 rfl ?_
        refine aw_getR (b := 1) dX6_readsCell_149 fl_X6_7 rfl (((sT.I (stI A 0 24 (nI (p + 1))) 4 ((12 * (12 + t)) + j) (nI (B p))).TR ((sT.I A 0 24 (nI (p + 1))).TR hT)).s 0 (by decide)) (((sT.I (stI A 0 24 (nI (p + 1))) 4 ((12 * (12 + t)) + j) (nI (B p))).TR ((sT.I A 0 24 (nI (p + 1))).TR hT)).n 0 (by decide)) (((sT.I (stI A 0 24 (nI (p + 1))) 4 ((12 * (12 + t)) + j) (nI (B p))).TR ((sT.I A 0 24 (nI (p + 1))).TR hT)).r 0) ?_
        refine aw_iload_n dX6_readsCell_152 3 rfl ?_
        refine aw_ialdN (12 + t) dX6_readsCell_153 (((sT.I (stI A 0 24 (nI (p + 1))) 4 ((12 * (12 + t)) + j) (nI (B p))).TR ((sT.I A 0 24 (nI (p + 1))).TR hT)).s 1 (by decide)) (((sT.I (stI A 0 24 (nI (p + 1))) 4 ((12 * (12 + t)) + j) (nI (B p))).TR ((sT.I A 0 24 (nI (p + 1))).TR hT)).n 1 (by decide)) rfl (by omega) (by first | decide | omega) ?_
        refine aw_topE ((congrFun (mI_stI_c _ _ _ (by decide)) (12 + t)).trans ((congrFun (mI_stI_c _ _ _ (by decide)) (12 + t)).trans hk)) ?_
        refine aw_bipush (v := 11) dX6_readsCell_154 (by decide) ?_
        refine aw_icmp_neN k 11 163 dX6_readsCell_156 (by decide) rfl rfl (by omega) (by omega) (fun c6 => ?_) (fun c6 => absurd c6 k11)
        refine aw_iconst (v := 0) dX6_readsCell_163 (by decide) ?_
        refine aw_iconst (v := 5) dX6_readsCell_164 (by decide) ?_
        refine aw_callVi [.int 0, .int 5] [.int (nI ((12 * (12 + t)) + j)), .ref 5] (sp_p1f (d := d - 1) (by omega) 0 5 hD1 hp1 (by omega) hf1 (by decide) (by decide) hc1) dX6_readsCell_165 ml_X6_320 im_X6_part1 (((sT.I (stI A 0 24 (nI (p + 1))) 4 ((12 * (12 + t)) + j) (nI (B p))).TR ((sT.I A 0 24 (nI (p + 1))).TR hT)).s 0 (by decide)) (((sT.I (stI A 0 24 (nI (p + 1))) 4 ((12 * (12 + t)) + j) (nI (B p))).TR ((sT.I A 0 24 (nI (p + 1))).TR hT)).n 0 (by decide)) rfl rfl (dl1 (d := d) (by omega)) rfl rfl (Nat.le_of_ble_eq_true rfl) rfl rfl (Nat.zero_le _) (Nat.zero_le _) ?_
        refine aw_i2l dX6_readsCell_168 ?_
        refine aw_lastN ((12 * (12 + t)) + j) dX6_readsCell_169 (((sT.I (stI (stI A 0 24 (nI (p + 1))) 4 (12 * (12 + t) + j) (nI (B p))) 0 25 (nI (p + 1))).TR hT1).s 5 (by decide)) (((sT.I (stI (stI A 0 24 (nI (p + 1))) 4 (12 * (12 + t) + j) (nI (B p))) 0 25 (nI (p + 1))).TR hT1).n 5 (by decide)) rfl (by omega) (by first | decide | omega) ?_
        refine aw_goto 262 dX6_readsCell_170 (by decide) ?_
        refine aw_ret dX6_readsCell_262 rfl (Nat.zero_le _) (Nat.zero_le _) ?_
        exact ⟨rfl, (hF1.i 25 (nI (p + 1)) (by decide)).c (by omega) _, mI_stI_v (stI (stI A 0 24 (nI (p + 1))) 4 (12 * (12 + t) + j) (nI (B p))) 0 25 (nI (p + 1))⟩
  · rw [if_neg (by omega), if_neg (by omega), if_pos c]
    unfold pLink
    by_cases cl1 : p + 1 < L
    · have hb1 := (hD.2.2.2 (p + 1) cl1).2
      by_cases cu : B (p + 1) < R.1
      · have hKb : mI (stI (stI A 0 24 (nI (p + 1))) 4 (12 * (12 + t) + j) (nI (B p))) 1 (12 + B (p + 1)) = nI (rK R (B (p + 1))) := (congrFun (mI_stI_c _ _ _ (by decide)) _).trans ((congrFun (mI_stI_c _ _ _ (by decide)) _).trans (hC.2.2.2.2.2 (B (p + 1)) cu).2.2.1)
        have hK16 := (hC.2.2.2.2.2 (B (p + 1)) cu).1
        by_cases k13 : k = 13
        · by_cases k4 : rK R (B (p + 1)) = 4
          · rw [if_pos ⟨cl1, cu, fun _ => k4⟩]
            refine aw_aload_n dX6_readsCell_0 0 rfl ?_
            refine aw_aload_n dX6_readsCell_1 0 rfl ?_
            refine aw_getI dX6_readsCell_2 fl_X6_289 (hT.s 0 (by decide)) (hT.n 0 (by decide)) ?_
            refine aw_topE hC.2.1 ?_
            refine aw_callVi [.int (nI p)] [] (sp_by (d := d - 1) hD cl) dX6_readsCell_5 ml_X6_292 im_X6_byteAt (hT.s 0 (by decide)) (hT.n 0 (by decide)) rfl rfl (dl1 (d := d) (by omega)) rfl rfl (Nat.le_of_ble_eq_true rfl) rfl rfl (Nat.zero_le _) (Nat.zero_le _) ?_
            refine aw_istore_n [(3, .int (nI (B p))), (0, .ref 0), (1, .int (nI (12 + t))), (2, .int (nI j))] dX6_readsCell_8 (Nat.le_of_ble_eq_true rfl) rfl ?_
            refine aw_aload_n dX6_readsCell_9 1 rfl ?_
            refine aw_aload_n dX6_readsCell_10 1 rfl ?_
            refine aw_getR (b := 1) dX6_readsCell_11 fl_X6_7 rfl (hT.s 0 (by decide)) (hT.n 0 (by decide)) (hT.r 0) ?_
            refine aw_iload_n dX6_readsCell_14 2 rfl ?_
            refine aw_ialdN (12 + t) dX6_readsCell_15 (hT.s 1 (by decide)) (hT.n 1 (by decide)) rfl (by omega) (by first | decide | omega) ?_
            refine aw_topE hk ?_
            refine aw_iload_n dX6_readsCell_16 0 rfl ?_
            refine aw_callVi [.int (nI k), .int (nI (B p))] [] (sp_X6_mayStand (d := d - 1) (by omega) (nI k) (nI (B p)) hT) dX6_readsCell_17 ml_X6_342 im_X6_mayStand (hT.s 0 (by decide)) (hT.n 0 (by decide)) rfl rfl (dl1 (d := d) (by omega)) rfl rfl (Nat.le_of_ble_eq_true rfl) rfl rfl (Nat.zero_le _) (Nat.zero_le _) ?_
            refine aw_if_ne 32 dX6_readsCell_20 (by decide) (fun c1 => ?_) (fun c1 => absurd c1 (bz_n0.mpr hms))
            refine aw_bipush (v := 12) dX6_readsCell_32 (by decide) ?_
            refine aw_iload_n dX6_readsCell_34 2 rfl ?_
            refine aw_imulN 12 (12 + t) dX6_readsCell_35 rfl rfl ?_
            refine aw_iload_n dX6_readsCell_36 3 rfl ?_
            refine aw_iaddN (12 * (12 + t)) j dX6_readsCell_37 rfl rfl ?_
            refine aw_istore [(4, .int (nI ((12 * (12 + t)) + j))), (3, .int (nI (B p))), (0, .ref 0), (1, .int (nI (12 + t))), (2, .int (nI j))] dX6_readsCell_38 (Nat.le_of_ble_eq_true rfl) rfl ?_
            refine aw_iload_n dX6_readsCell_40 1 rfl ?_
            refine aw_callSi [.int (nI (B p))] [] (sp_X6_isRowTag (d := d - 1) (by omega) (nI (B p))) dX6_readsCell_41 ml_X6_339 sm_X6_isRowTag rfl (dl1 (d := d) (by omega)) rfl rfl (Nat.le_of_ble_eq_true rfl) rfl rfl (Nat.zero_le _) (Nat.zero_le _) ?_
            refine aw_if_eq 76 dX6_readsCell_44 (by decide) (fun c2 => ?_) (fun c2 => absurd (bz_0.mpr htg) c2)
            refine aw_aload_n dX6_readsCell_76 2 rfl ?_
            refine aw_dup dX6_readsCell_77 rfl ?_
            refine aw_getI dX6_readsCell_78 fl_X6_289 (hT.s 0 (by decide)) (hT.n 0 (by decide)) ?_
            refine aw_topE hC.2.1 ?_
            refine aw_iconst (v := 1) dX6_readsCell_81 (by decide) ?_
            refine aw_iaddN p 1 dX6_readsCell_82 rfl rfl ?_
            refine aw_putI dX6_readsCell_83 fl_X6_289 (Or.inl rfl) (hT.s 0 (by decide)) (hT.n 0 (by decide)) ?_
            refine aw_aload_n dX6_readsCell_86 2 rfl ?_
            refine aw_getR (b := 4) dX6_readsCell_87 fl_X6_20 rfl (((sT.I A 0 24 (nI (p + 1))).TR hT).s 0 (by decide)) (((sT.I A 0 24 (nI (p + 1))).TR hT).n 0 (by decide)) (((sT.I A 0 24 (nI (p + 1))).TR hT).r 3) ?_
            refine aw_iload dX6_readsCell_90 0 rfl ?_
            refine aw_iload_n dX6_readsCell_92 1 rfl ?_
            refine aw_iastN ((12 * (12 + t)) + j) dX6_readsCell_93 (((sT.I A 0 24 (nI (p + 1))).TR hT).s 4 (by decide)) (((sT.I A 0 24 (nI (p + 1))).TR hT).n 4 (by decide)) rfl (by omega) (by first | decide | omega) ?_
            refine aw_iload_n dX6_readsCell_94 1 rfl ?_
            refine aw_bipush (v := 8) dX6_readsCell_95 (by decide) ?_
            refine aw_icmp_geN (B p) 8 115 dX6_readsCell_97 (by decide) rfl rfl (by omega) (by omega) (fun c3 => ?_) (fun c3 => absurd (by omega) c3)
            refine aw_iload_n dX6_readsCell_115 1 rfl ?_
            refine aw_bipush (v := 8) dX6_readsCell_116 (by decide) ?_
            refine aw_icmp_neN (B p) 8 135 dX6_readsCell_118 (by decide) rfl rfl (by omega) (by omega) (fun c4 => ?_) (fun c4 => absurd c4 (by omega))
            refine aw_iload_n dX6_readsCell_135 1 rfl ?_
            refine aw_bipush (v := 9) dX6_readsCell_136 (by decide) ?_
            refine aw_icmp_neN (B p) 9 173 dX6_readsCell_138 (by decide) rfl rfl (by omega) (by omega) (fun c5 => ?_) (fun c5 => absurd c5 (by omega))
            refine aw_iload_n dX6_readsCell_173 1 rfl ?_
            refine aw_bipush (v := 10) dX6_readsCell_174 (by decide) ?_
            refine aw_icmp_neN (B p) 10 262 dX6_readsCell_176 (by decide) rfl rfl (by omega) (by omega) (fun c6 => absurd (by omega) c6) (fun c6 => ?_)
            refine aw_aload_n dX6_readsCell_179 2 rfl ?_
            refine aw_aload_n dX6_readsCell_180 2 rfl ?_
            refine aw_getI dX6_readsCell_181 fl_X6_289 (((sT.I (stI A 0 24 (nI (p + 1))) 4 ((12 * (12 + t)) + j) (nI (B p))).TR ((sT.I A 0 24 (nI (p + 1))).TR hT)).s 0 (by decide)) (((sT.I (stI A 0 24 (nI (p + 1))) 4 ((12 * (12 + t)) + j) (nI (B p))).TR ((sT.I A 0 24 (nI (p + 1))).TR hT)).n 0 (by decide)) ?_
            refine aw_topE hp1 ?_
            refine aw_callVi [.int (nI (p + 1))] [] (sp_by (d := d - 1) hD1 cl1) dX6_readsCell_184 ml_X6_292 im_X6_byteAt (((sT.I (stI A 0 24 (nI (p + 1))) 4 ((12 * (12 + t)) + j) (nI (B p))).TR ((sT.I A 0 24 (nI (p + 1))).TR hT)).s 0 (by decide)) (((sT.I (stI A 0 24 (nI (p + 1))) 4 ((12 * (12 + t)) + j) (nI (B p))).TR ((sT.I A 0 24 (nI (p + 1))).TR hT)).n 0 (by decide)) rfl rfl (dl1 (d := d) (by omega)) rfl rfl (Nat.le_of_ble_eq_true rfl) rfl rfl (Nat.zero_le _) (Nat.zero_le _) ?_
            refine aw_istore [(5, .int (nI (B (p + 1)))), (4, .int (nI ((12 * (12 + t)) + j))), (3, .int (nI (B p))), (0, .ref 0), (1, .int (nI (12 + t))), (2, .int (nI j))] dX6_readsCell_187 (Nat.le_of_ble_eq_true rfl) rfl ?_
            refine aw_iload dX6_readsCell_189 0 rfl ?_
            refine aw_if_lt 228 dX6_readsCell_191 (by decide) (fun c7 => absurd c7 (nI_nn (by omega))) (fun c7 => ?_)
            refine aw_iload dX6_readsCell_194 0 rfl ?_
            refine aw_aload_n dX6_readsCell_196 3 rfl ?_
            refine aw_getI dX6_readsCell_197 fl_X6_327 (((sT.I (stI A 0 24 (nI (p + 1))) 4 ((12 * (12 + t)) + j) (nI (B p))).TR ((sT.I A 0 24 (nI (p + 1))).TR hT)).s 0 (by decide)) (((sT.I (stI A 0 24 (nI (p + 1))) 4 ((12 * (12 + t)) + j) (nI (B p))).TR ((sT.I A 0 24 (nI (p + 1))).TR hT)).n 0 (by decide)) ?_
            refine aw_topE ((congrFun (mI_stI_c _ _ _ (by decide)) 26).trans ((mI_stI_o _ _ _ _ (by decide)).trans hC.2.2.2.1)) ?_
            refine aw_icmp_geN (B (p + 1)) R.1 228 dX6_readsCell_200 (by decide) rfl rfl (by omega) (by omega) (fun c8 => absurd c8 (by omega)) (fun c8 => ?_)
            refine aw_aload_n dX6_readsCell_203 3 rfl ?_
            refine aw_getR (b := 1) dX6_readsCell_204 fl_X6_7 rfl (((sT.I (stI A 0 24 (nI (p + 1))) 4 ((12 * (12 + t)) + j) (nI (B p))).TR ((sT.I A 0 24 (nI (p + 1))).TR hT)).s 0 (by decide)) (((sT.I (stI A 0 24 (nI (p + 1))) 4 ((12 * (12 + t)) + j) (nI (B p))).TR ((sT.I A 0 24 (nI (p + 1))).TR hT)).n 0 (by decide)) (((sT.I (stI A 0 24 (nI (p + 1))) 4 ((12 * (12 + t)) + j) (nI (B p))).TR ((sT.I A 0 24 (nI (p + 1))).TR hT)).r 0) ?_
            refine aw_iload_n dX6_readsCell_207 4 rfl ?_
            refine aw_ialdN (12 + t) dX6_readsCell_208 (((sT.I (stI A 0 24 (nI (p + 1))) 4 ((12 * (12 + t)) + j) (nI (B p))).TR ((sT.I A 0 24 (nI (p + 1))).TR hT)).s 1 (by decide)) (((sT.I (stI A 0 24 (nI (p + 1))) 4 ((12 * (12 + t)) + j) (nI (B p))).TR ((sT.I A 0 24 (nI (p + 1))).TR hT)).n 1 (by decide)) rfl (by omega) (by first | decide | omega) ?_
            refine aw_topE ((congrFun (mI_stI_c _ _ _ (by decide)) (12 + t)).trans ((congrFun (mI_stI_c _ _ _ (by decide)) (12 + t)).trans hk)) ?_
            refine aw_bipush (v := 13) dX6_readsCell_209 (by decide) ?_
            refine aw_icmp_neN k 13 239 dX6_readsCell_211 (by decide) rfl rfl (by omega) (by omega) (fun c9 => absurd k13 c9) (fun c9 => ?_)
            refine aw_aload_n dX6_readsCell_214 3 rfl ?_
            refine aw_getR (b := 1) dX6_readsCell_215 fl_X6_7 rfl (((sT.I (stI A 0 24 (nI (p + 1))) 4 ((12 * (12 + t)) + j) (nI (B p))).TR ((sT.I A 0 24 (nI (p + 1))).TR hT)).s 0 (by decide)) (((sT.I (stI A 0 24 (nI (p + 1))) 4 ((12 * (12 + t)) + j) (nI (B p))).TR ((sT.I A 0 24 (nI (p + 1))).TR hT)).n 0 (by decide)) (((sT.I (stI A 0 24 (nI (p + 1))) 4 ((12 * (12 + t)) + j) (nI (B p))).TR ((sT.I A 0 24 (nI (p + 1))).TR hT)).r 0) ?_
            refine aw_bipush (v := 12) dX6_readsCell_218 (by decide) ?_
            refine aw_iload dX6_readsCell_220 0 rfl ?_
            refine aw_iaddN 12 (B (p + 1)) dX6_readsCell_222 rfl rfl ?_
            refine aw_ialdN (12 + (B (p + 1))) dX6_readsCell_223 (((sT.I (stI A 0 24 (nI (p + 1))) 4 ((12 * (12 + t)) + j) (nI (B p))).TR ((sT.I A 0 24 (nI (p + 1))).TR hT)).s 1 (by decide)) (((sT.I (stI A 0 24 (nI (p + 1))) 4 ((12 * (12 + t)) + j) (nI (B p))).TR ((sT.I A 0 24 (nI (p + 1))).TR hT)).n 1 (by decide)) rfl (by omega) (by first | decide | omega) ?_
            refine aw_topE hKb ?_
            refine aw_iconst (v := 4) dX6_readsCell_224 (by decide) ?_
            refine aw_icmp_eqN (rK R (B (p + 1))) 4 239 dX6_readsCell_225 (by decide) rfl rfl (by omega) (by omega) (fun c10 => ?_) (fun c10 => absurd k4 c10)
            refine aw_aload_n dX6_readsCell_239 3 rfl ?_
            refine aw_dup dX6_readsCell_240 rfl ?_
            refine aw_getI dX6_readsCell_241 fl_X6_289 (((sT.I (stI A 0 24 (nI (p + 1))) 4 ((12 * (12 + t)) + j) (nI (B p))).TR ((sT.I A 0 24 (nI (p + 1))).TR hT)).s 0 (by decide)) (((sT.I (stI A 0 24 (nI (p + 1))) 4 ((12 * (12 + t)) + j) (nI (B p))).TR ((sT.I A 0 24 (nI (p + 1))).TR hT)).n 0 (by decide)) ?_
            refine aw_topE hp1 ?_
            refine aw_iconst (v := 1) dX6_readsCell_244 (by decide) ?_
            refine aw_iaddN (p + 1) 1 dX6_readsCell_245 rfl rfl ?_
            refine aw_putI dX6_readsCell_246 fl_X6_289 (Or.inl rfl) (((sT.I (stI A 0 24 (nI (p + 1))) 4 ((12 * (12 + t)) + j) (nI (B p))).TR ((sT.I A 0 24 (nI (p + 1))).TR hT)).s 0 (by decide)) (((sT.I (stI A 0 24 (nI (p + 1))) 4 ((12 * (12 + t)) + j) (nI (B p))).TR ((sT.I A 0 24 (nI (p + 1))).TR hT)).n 0 (by decide)) ?_
            refine aw_aload_n dX6_readsCell_249 3 rfl ?_
            refine aw_getR (b := 5) dX6_readsCell_250 fl_X6_23 rfl (((sT.I (stI (stI A 0 24 (nI (p + 1))) 4 ((12 * (12 + t)) + j) (nI (B p))) 0 24 (nI ((p + 1) + 1))).TR ((sT.I (stI A 0 24 (nI (p + 1))) 4 ((12 * (12 + t)) + j) (nI (B p))).TR ((sT.I A 0 24 (nI (p + 1))).TR hT))).s 0 (by decide)) (((sT.I (stI (stI A 0 24 (nI (p + 1))) 4 ((12 * (12 + t)) + j) (nI (B p))) 0 24 (nI ((p + 1) + 1))).TR ((sT.I (stI A 0 24 (nI (p + 1))) 4 ((12 * (12 + t)) + j) (nI (B p))).TR ((sT.I A 0 24 (nI (p + 1))).TR hT))).n 0 (by decide)) (((sT.I (stI (stI A 0 24 (nI (p + 1))) 4 ((12 * (12 + t)) + j) (nI (B p))) 0 24 (nI ((p + 1) + 1))).TR ((sT.I (stI A 0 24 (nI (p + 1))) 4 ((12 * (12 + t)) + j) (nI (B p))).TR ((sT.I A 0 24 (nI (p + 1))).TR hT))).r 4) ?_
            refine aw_iload dX6_readsCell_253 1 rfl ?_
            refine aw_bipush (v := 12) dX6_readsCell_255 (by decide) ?_
            refine aw_iload dX6_readsCell_257 0 rfl ?_
            refine aw_iaddN 12 (B (p + 1)) dX6_readsCell_259 rfl rfl ?_
            refine aw_i2lN (12 + (B (p + 1))) dX6_readsCell_260 rfl (by omega) ?_
            refine aw_lastN ((12 * (12 + t)) + j) dX6_readsCell_261 (((sT.I (stI (stI A 0 24 (nI (p + 1))) 4 ((12 * (12 + t)) + j) (nI (B p))) 0 24 (nI ((p + 1) + 1))).TR ((sT.I (stI A 0 24 (nI (p + 1))) 4 ((12 * (12 + t)) + j) (nI (B p))).TR ((sT.I A 0 24 (nI (p + 1))).TR hT))).s 5 (by decide)) (((sT.I (stI (stI A 0 24 (nI (p + 1))) 4 ((12 * (12 + t)) + j) (nI (B p))) 0 24 (nI ((p + 1) + 1))).TR ((sT.I (stI A 0 24 (nI (p + 1))) 4 ((12 * (12 + t)) + j) (nI (B p))).TR ((sT.I A 0 24 (nI (p + 1))).TR hT))).n 5 (by decide)) rfl (by omega) (by first | decide | omega) ?_
            refine aw_ret dX6_readsCell_262 rfl (Nat.zero_le _) (Nat.zero_le _) ?_
            have q := hC.cel (j := j) (w := B p) ht (by omega) (by omega) (lN (B (p + 1))) (p + 1 + 1)
            rw [show vR (B p) (lN (B (p + 1))) = lN (12 + B (p + 1)) by unfold vR; rw [if_pos c, lC_N (by omega)]] at q
            exact ⟨rfl, q, (hsk.t (SK_i _ (nI (p + 1 + 1)) (by decide))).t (SK_l _ _ _)⟩
          · rw [if_neg (fun z => k4 (z.2.2 k13))]
            refine aw_aload_n dX6_readsCell_0 0 rfl ?_
            refine aw_aload_n dX6_readsCell_1 0 rfl ?_
            refine aw_getI dX6_readsCell_2 fl_X6_289 (hT.s 0 (by decide)) (hT.n 0 (by decide)) ?_
            refine aw_topE hC.2.1 ?_
            refine aw_callVi [.int (nI p)] [] (sp_by (d := d - 1) hD cl) dX6_readsCell_5 ml_X6_292 im_X6_byteAt (hT.s 0 (by decide)) (hT.n 0 (by decide)) rfl rfl (dl1 (d := d) (by omega)) rfl rfl (Nat.le_of_ble_eq_true rfl) rfl rfl (Nat.zero_le _) (Nat.zero_le _) ?_
            refine aw_istore_n [(3, .int (nI (B p))), (0, .ref 0), (1, .int (nI (12 + t))), (2, .int (nI j))] dX6_readsCell_8 (Nat.le_of_ble_eq_true rfl) rfl ?_
            refine aw_aload_n dX6_readsCell_9 1 rfl ?_
            refine aw_aload_n dX6_readsCell_10 1 rfl ?_
            refine aw_getR (b := 1) dX6_readsCell_11 fl_X6_7 rfl (hT.s 0 (by decide)) (hT.n 0 (by decide)) (hT.r 0) ?_
            refine aw_iload_n dX6_readsCell_14 2 rfl ?_
            refine aw_ialdN (12 + t) dX6_readsCell_15 (hT.s 1 (by decide)) (hT.n 1 (by decide)) rfl (by omega) (by first | decide | omega) ?_
            refine aw_topE hk ?_
            refine aw_iload_n dX6_readsCell_16 0 rfl ?_
            refine aw_callVi [.int (nI k), .int (nI (B p))] [] (sp_X6_mayStand (d := d - 1) (by omega) (nI k) (nI (B p)) hT) dX6_readsCell_17 ml_X6_342 im_X6_mayStand (hT.s 0 (by decide)) (hT.n 0 (by decide)) rfl rfl (dl1 (d := d) (by omega)) rfl rfl (Nat.le_of_ble_eq_true rfl) rfl rfl (Nat.zero_le _) (Nat.zero_le _) ?_
            refine aw_if_ne 32 dX6_readsCell_20 (by decide) (fun c1 => ?_) (fun c1 => absurd c1 (bz_n0.mpr hms))
            refine aw_bipush (v := 12) dX6_readsCell_32 (by decide) ?_
            refine aw_iload_n dX6_readsCell_34 2 rfl ?_
            refine aw_imulN 12 (12 + t) dX6_readsCell_35 rfl rfl ?_
            refine aw_iload_n dX6_readsCell_36 3 rfl ?_
            refine aw_iaddN (12 * (12 + t)) j dX6_readsCell_37 rfl rfl ?_
            refine aw_istore [(4, .int (nI ((12 * (12 + t)) + j))), (3, .int (nI (B p))), (0, .ref 0), (1, .int (nI (12 + t))), (2, .int (nI j))] dX6_readsCell_38 (Nat.le_of_ble_eq_true rfl) rfl ?_
            refine aw_iload_n dX6_readsCell_40 1 rfl ?_
            refine aw_callSi [.int (nI (B p))] [] (sp_X6_isRowTag (d := d - 1) (by omega) (nI (B p))) dX6_readsCell_41 ml_X6_339 sm_X6_isRowTag rfl (dl1 (d := d) (by omega)) rfl rfl (Nat.le_of_ble_eq_true rfl) rfl rfl (Nat.zero_le _) (Nat.zero_le _) ?_
            refine aw_if_eq 76 dX6_readsCell_44 (by decide) (fun c2 => ?_) (fun c2 => absurd (bz_0.mpr htg) c2)
            refine aw_aload_n dX6_readsCell_76 2 rfl ?_
            refine aw_dup dX6_readsCell_77 rfl ?_
            refine aw_getI dX6_readsCell_78 fl_X6_289 (hT.s 0 (by decide)) (hT.n 0 (by decide)) ?_
            refine aw_topE hC.2.1 ?_
            refine aw_iconst (v := 1) dX6_readsCell_81 (by decide) ?_
            refine aw_iaddN p 1 dX6_readsCell_82 rfl rfl ?_
            refine aw_putI dX6_readsCell_83 fl_X6_289 (Or.inl rfl) (hT.s 0 (by decide)) (hT.n 0 (by decide)) ?_
            refine aw_aload_n dX6_readsCell_86 2 rfl ?_
            refine aw_getR (b := 4) dX6_readsCell_87 fl_X6_20 rfl (((sT.I A 0 24 (nI (p + 1))).TR hT).s 0 (by decide)) (((sT.I A 0 24 (nI (p + 1))).TR hT).n 0 (by decide)) (((sT.I A 0 24 (nI (p + 1))).TR hT).r 3) ?_
            refine aw_iload dX6_readsCell_90 0 rfl ?_
            refine aw_iload_n dX6_readsCell_92 1 rfl ?_
            refine aw_iastN ((12 * (12 + t)) + j) dX6_readsCell_93 (((sT.I A 0 24 (nI (p + 1))).TR hT).s 4 (by decide)) (((sT.I A 0 24 (nI (p + 1))).TR hT).n 4 (by decide)) rfl (by omega) (by first | decide | omega) ?_
            refine aw_iload_n dX6_readsCell_94 1 rfl ?_
            refine aw_bipush (v := 8) dX6_readsCell_95 (by decide) ?_
            refine aw_icmp_geN (B p) 8 115 dX6_readsCell_97 (by decide) rfl rfl (by omega) (by omega) (fun c3 => ?_) (fun c3 => absurd (by omega) c3)
            refine aw_iload_n dX6_readsCell_115 1 rfl ?_
            refine aw_bipush (v := 8) dX6_readsCell_116 (by decide) ?_
            refine aw_icmp_neN (B p) 8 135 dX6_readsCell_118 (by decide) rfl rfl (by omega) (by omega) (fun c4 => ?_) (fun c4 => absurd c4 (by omega))
            refine aw_iload_n dX6_readsCell_135 1 rfl ?_
            refine aw_bipush (v := 9) dX6_readsCell_136 (by decide) ?_
            refine aw_icmp_neN (B p) 9 173 dX6_readsCell_138 (by decide) rfl rfl (by omega) (by omega) (fun c5 => ?_) (fun c5 => absurd c5 (by omega))
            refine aw_iload_n dX6_readsCell_173 1 rfl ?_
            refine aw_bipush (v := 10) dX6_readsCell_174 (by decide) ?_
            refine aw_icmp_neN (B p) 10 262 dX6_readsCell_176 (by decide) rfl rfl (by omega) (by omega) (fun c6 => absurd (by omega) c6) (fun c6 => ?_)
            refine aw_aload_n dX6_readsCell_179 2 rfl ?_
            refine aw_aload_n dX6_readsCell_180 2 rfl ?_
            refine aw_getI dX6_readsCell_181 fl_X6_289 (((sT.I (stI A 0 24 (nI (p + 1))) 4 ((12 * (12 + t)) + j) (nI (B p))).TR ((sT.I A 0 24 (nI (p + 1))).TR hT)).s 0 (by decide)) (((sT.I (stI A 0 24 (nI (p + 1))) 4 ((12 * (12 + t)) + j) (nI (B p))).TR ((sT.I A 0 24 (nI (p + 1))).TR hT)).n 0 (by decide)) ?_
            refine aw_topE hp1 ?_
            refine aw_callVi [.int (nI (p + 1))] [] (sp_by (d := d - 1) hD1 cl1) dX6_readsCell_184 ml_X6_292 im_X6_byteAt (((sT.I (stI A 0 24 (nI (p + 1))) 4 ((12 * (12 + t)) + j) (nI (B p))).TR ((sT.I A 0 24 (nI (p + 1))).TR hT)).s 0 (by decide)) (((sT.I (stI A 0 24 (nI (p + 1))) 4 ((12 * (12 + t)) + j) (nI (B p))).TR ((sT.I A 0 24 (nI (p + 1))).TR hT)).n 0 (by decide)) rfl rfl (dl1 (d := d) (by omega)) rfl rfl (Nat.le_of_ble_eq_true rfl) rfl rfl (Nat.zero_le _) (Nat.zero_le _) ?_
            refine aw_istore [(5, .int (nI (B (p + 1)))), (4, .int (nI ((12 * (12 + t)) + j))), (3, .int (nI (B p))), (0, .ref 0), (1, .int (nI (12 + t))), (2, .int (nI j))] dX6_readsCell_187 (Nat.le_of_ble_eq_true rfl) rfl ?_
            refine aw_iload dX6_readsCell_189 0 rfl ?_
            refine aw_if_lt 228 dX6_readsCell_191 (by decide) (fun c7 => absurd c7 (nI_nn (by omega))) (fun c7 => ?_)
            refine aw_iload dX6_readsCell_194 0 rfl ?_
            refine aw_aload_n dX6_readsCell_196 3 rfl ?_
            refine aw_getI dX6_readsCell_197 fl_X6_327 (((sT.I (stI A 0 24 (nI (p + 1))) 4 ((12 * (12 + t)) + j) (nI (B p))).TR ((sT.I A 0 24 (nI (p + 1))).TR hT)).s 0 (by decide)) (((sT.I (stI A 0 24 (nI (p + 1))) 4 ((12 * (12 + t)) + j) (nI (B p))).TR ((sT.I A 0 24 (nI (p + 1))).TR hT)).n 0 (by decide)) ?_
            refine aw_topE ((congrFun (mI_stI_c _ _ _ (by decide)) 26).trans ((mI_stI_o _ _ _ _ (by decide)).trans hC.2.2.2.1)) ?_
            refine aw_icmp_geN (B (p + 1)) R.1 228 dX6_readsCell_200 (by decide) rfl rfl (by omega) (by omega) (fun c8 => absurd c8 (by omega)) (fun c8 => ?_)
            refine aw_aload_n dX6_readsCell_203 3 rfl ?_
            refine aw_getR (b := 1) dX6_readsCell_204 fl_X6_7 rfl (((sT.I (stI A 0 24 (nI (p + 1))) 4 ((12 * (12 + t)) + j) (nI (B p))).TR ((sT.I A 0 24 (nI (p + 1))).TR hT)).s 0 (by decide)) (((sT.I (stI A 0 24 (nI (p + 1))) 4 ((12 * (12 + t)) + j) (nI (B p))).TR ((sT.I A 0 24 (nI (p + 1))).TR hT)).n 0 (by decide)) (((sT.I (stI A 0 24 (nI (p + 1))) 4 ((12 * (12 + t)) + j) (nI (B p))).TR ((sT.I A 0 24 (nI (p + 1))).TR hT)).r 0) ?_
            refine aw_iload_n dX6_readsCell_207 4 rfl ?_
            refine aw_ialdN (12 + t) dX6_readsCell_208 (((sT.I (stI A 0 24 (nI (p + 1))) 4 ((12 * (12 + t)) + j) (nI (B p))).TR ((sT.I A 0 24 (nI (p + 1))).TR hT)).s 1 (by decide)) (((sT.I (stI A 0 24 (nI (p + 1))) 4 ((12 * (12 + t)) + j) (nI (B p))).TR ((sT.I A 0 24 (nI (p + 1))).TR hT)).n 1 (by decide)) rfl (by omega) (by first | decide | omega) ?_
            refine aw_topE ((congrFun (mI_stI_c _ _ _ (by decide)) (12 + t)).trans ((congrFun (mI_stI_c _ _ _ (by decide)) (12 + t)).trans hk)) ?_
            refine aw_bipush (v := 13) dX6_readsCell_209 (by decide) ?_
            refine aw_icmp_neN k 13 239 dX6_readsCell_211 (by decide) rfl rfl (by omega) (by omega) (fun c9 => absurd k13 c9) (fun c9 => ?_)
            refine aw_aload_n dX6_readsCell_214 3 rfl ?_
            refine aw_getR (b := 1) dX6_readsCell_215 fl_X6_7 rfl (((sT.I (stI A 0 24 (nI (p + 1))) 4 ((12 * (12 + t)) + j) (nI (B p))).TR ((sT.I A 0 24 (nI (p + 1))).TR hT)).s 0 (by decide)) (((sT.I (stI A 0 24 (nI (p + 1))) 4 ((12 * (12 + t)) + j) (nI (B p))).TR ((sT.I A 0 24 (nI (p + 1))).TR hT)).n 0 (by decide)) (((sT.I (stI A 0 24 (nI (p + 1))) 4 ((12 * (12 + t)) + j) (nI (B p))).TR ((sT.I A 0 24 (nI (p + 1))).TR hT)).r 0) ?_
            refine aw_bipush (v := 12) dX6_readsCell_218 (by decide) ?_
            refine aw_iload dX6_readsCell_220 0 rfl ?_
            refine aw_iaddN 12 (B (p + 1)) dX6_readsCell_222 rfl rfl ?_
            refine aw_ialdN (12 + (B (p + 1))) dX6_readsCell_223 (((sT.I (stI A 0 24 (nI (p + 1))) 4 ((12 * (12 + t)) + j) (nI (B p))).TR ((sT.I A 0 24 (nI (p + 1))).TR hT)).s 1 (by decide)) (((sT.I (stI A 0 24 (nI (p + 1))) 4 ((12 * (12 + t)) + j) (nI (B p))).TR ((sT.I A 0 24 (nI (p + 1))).TR hT)).n 1 (by decide)) rfl (by omega) (by first | decide | omega) ?_
            refine aw_topE hKb ?_
            refine aw_iconst (v := 4) dX6_readsCell_224 (by decide) ?_
            refine aw_icmp_eqN (rK R (B (p + 1))) 4 239 dX6_readsCell_225 (by decide) rfl rfl (by omega) (by omega) (fun c10 => absurd c10 k4) (fun c10 => ?_)
            refine aw_aload_n dX6_readsCell_228 3 rfl ?_
            refine aw_aload_n dX6_readsCell_229 3 rfl ?_
            refine aw_getI dX6_readsCell_230 fl_X6_289 (((sT.I (stI A 0 24 (nI (p + 1))) 4 ((12 * (12 + t)) + j) (nI (B p))).TR ((sT.I A 0 24 (nI (p + 1))).TR hT)).s 0 (by decide)) (((sT.I (stI A 0 24 (nI (p + 1))) 4 ((12 * (12 + t)) + j) (nI (B p))).TR ((sT.I A 0 24 (nI (p + 1))).TR hT)).n 0 (by decide)) ?_
            refine aw_topE hp1 ?_
            refine aw_callVv [.int (nI (p + 1))] [] (sp_fa (d := d - 1) (nI (p + 1)) ((sT.I (stI A 0 24 (nI (p + 1))) 4 ((12 * (12 + t)) + j) (nI (B p))).TR ((sT.I A 0 24 (nI (p + 1))).TR hT)) hf1) dX6_readsCell_233 ml_X6_295 im_X6_faults (((sT.I (stI A 0 24 (nI (p + 1))) 4 ((12 * (12 + t)) + j) (nI (B p))).TR ((sT.I A 0 24 (nI (p + 1))).TR hT)).s 0 (by decide)) (((sT.I (stI A 0 24 (nI (p + 1))) 4 ((12 * (12 + t)) + j) (nI (B p))).TR ((sT.I A 0 24 (nI (p + 1))).TR hT)).n 0 (by decide)) rfl rfl (dl1 (d := d) (by omega)) rfl rfl (Nat.le_of_ble_eq_true rfl) rfl rfl (Nat.zero_le _) (Nat.zero_le _) ?_
            refine aw_goto 262 dX6_readsCell_236 (by decide) ?_
            refine aw_ret dX6_readsCell_262 rfl (Nat.zero_le _) (Nat.zero_le _) ?_
            exact ⟨rfl, hF1.i 25 (nI (p + 1)) (by decide), mI_stI_v _ _ _ _⟩
        · rw [if_pos ⟨cl1, cu, fun z => absurd z k13⟩]
          refine aw_aload_n dX6_readsCell_0 0 rfl ?_
          refine aw_aload_n dX6_readsCell_1 0 rfl ?_
          refine aw_getI dX6_readsCell_2 fl_X6_289 (hT.s 0 (by decide)) (hT.n 0 (by decide)) ?_
          refine aw_topE hC.2.1 ?_
          refine aw_callVi [.int (nI p)] [] (sp_by (d := d - 1) hD cl) dX6_readsCell_5 ml_X6_292 im_X6_byteAt (hT.s 0 (by decide)) (hT.n 0 (by decide)) rfl rfl (dl1 (d := d) (by omega)) rfl rfl (Nat.le_of_ble_eq_true rfl) rfl rfl (Nat.zero_le _) (Nat.zero_le _) ?_
          refine aw_istore_n [(3, .int (nI (B p))), (0, .ref 0), (1, .int (nI (12 + t))), (2, .int (nI j))] dX6_readsCell_8 (Nat.le_of_ble_eq_true rfl) rfl ?_
          refine aw_aload_n dX6_readsCell_9 1 rfl ?_
          refine aw_aload_n dX6_readsCell_10 1 rfl ?_
          refine aw_getR (b := 1) dX6_readsCell_11 fl_X6_7 rfl (hT.s 0 (by decide)) (hT.n 0 (by decide)) (hT.r 0) ?_
          refine aw_iload_n dX6_readsCell_14 2 rfl ?_
          refine aw_ialdN (12 + t) dX6_readsCell_15 (hT.s 1 (by decide)) (hT.n 1 (by decide)) rfl (by omega) (by first | decide | omega) ?_
          refine aw_topE hk ?_
          refine aw_iload_n dX6_readsCell_16 0 rfl ?_
          refine aw_callVi [.int (nI k), .int (nI (B p))] [] (sp_X6_mayStand (d := d - 1) (by omega) (nI k) (nI (B p)) hT) dX6_readsCell_17 ml_X6_342 im_X6_mayStand (hT.s 0 (by decide)) (hT.n 0 (by decide)) rfl rfl (dl1 (d := d) (by omega)) rfl rfl (Nat.le_of_ble_eq_true rfl) rfl rfl (Nat.zero_le _) (Nat.zero_le _) ?_
          refine aw_if_ne 32 dX6_readsCell_20 (by decide) (fun c1 => ?_) (fun c1 => absurd c1 (bz_n0.mpr hms))
          refine aw_bipush (v := 12) dX6_readsCell_32 (by decide) ?_
          refine aw_iload_n dX6_readsCell_34 2 rfl ?_
          refine aw_imulN 12 (12 + t) dX6_readsCell_35 rfl rfl ?_
          refine aw_iload_n dX6_readsCell_36 3 rfl ?_
          refine aw_iaddN (12 * (12 + t)) j dX6_readsCell_37 rfl rfl ?_
          refine aw_istore [(4, .int (nI ((12 * (12 + t)) + j))), (3, .int (nI (B p))), (0, .ref 0), (1, .int (nI (12 + t))), (2, .int (nI j))] dX6_readsCell_38 (Nat.le_of_ble_eq_true rfl) rfl ?_
          refine aw_iload_n dX6_readsCell_40 1 rfl ?_
          refine aw_callSi [.int (nI (B p))] [] (sp_X6_isRowTag (d := d - 1) (by omega) (nI (B p))) dX6_readsCell_41 ml_X6_339 sm_X6_isRowTag rfl (dl1 (d := d) (by omega)) rfl rfl (Nat.le_of_ble_eq_true rfl) rfl rfl (Nat.zero_le _) (Nat.zero_le _) ?_
          refine aw_if_eq 76 dX6_readsCell_44 (by decide) (fun c2 => ?_) (fun c2 => absurd (bz_0.mpr htg) c2)
          refine aw_aload_n dX6_readsCell_76 2 rfl ?_
          refine aw_dup dX6_readsCell_77 rfl ?_
          refine aw_getI dX6_readsCell_78 fl_X6_289 (hT.s 0 (by decide)) (hT.n 0 (by decide)) ?_
          refine aw_topE hC.2.1 ?_
          refine aw_iconst (v := 1) dX6_readsCell_81 (by decide) ?_
          refine aw_iaddN p 1 dX6_readsCell_82 rfl rfl ?_
          refine aw_putI dX6_readsCell_83 fl_X6_289 (Or.inl rfl) (hT.s 0 (by decide)) (hT.n 0 (by decide)) ?_
          refine aw_aload_n dX6_readsCell_86 2 rfl ?_
          refine aw_getR (b := 4) dX6_readsCell_87 fl_X6_20 rfl (((sT.I A 0 24 (nI (p + 1))).TR hT).s 0 (by decide)) (((sT.I A 0 24 (nI (p + 1))).TR hT).n 0 (by decide)) (((sT.I A 0 24 (nI (p + 1))).TR hT).r 3) ?_
          refine aw_iload dX6_readsCell_90 0 rfl ?_
          refine aw_iload_n dX6_readsCell_92 1 rfl ?_
          refine aw_iastN ((12 * (12 + t)) + j) dX6_readsCell_93 (((sT.I A 0 24 (nI (p + 1))).TR hT).s 4 (by decide)) (((sT.I A 0 24 (nI (p + 1))).TR hT).n 4 (by decide)) rfl (by omega) (by first | decide | omega) ?_
          refine aw_iload_n dX6_readsCell_94 1 rfl ?_
          refine aw_bipush (v := 8) dX6_readsCell_95 (by decide) ?_
          refine aw_icmp_geN (B p) 8 115 dX6_readsCell_97 (by decide) rfl rfl (by omega) (by omega) (fun c3 => ?_) (fun c3 => absurd (by omega) c3)
          refine aw_iload_n dX6_readsCell_115 1 rfl ?_
          refine aw_bipush (v := 8) dX6_readsCell_116 (by decide) ?_
          refine aw_icmp_neN (B p) 8 135 dX6_readsCell_118 (by decide) rfl rfl (by omega) (by omega) (fun c4 => ?_) (fun c4 => absurd c4 (by omega))
          refine aw_iload_n dX6_readsCell_135 1 rfl ?_
          refine aw_bipush (v := 9) dX6_readsCell_136 (by decide) ?_
          refine aw_icmp_neN (B p) 9 173 dX6_readsCell_138 (by decide) rfl rfl (by omega) (by omega) (fun c5 => ?_) (fun c5 => absurd c5 (by omega))
          refine aw_iload_n dX6_readsCell_173 1 rfl ?_
          refine aw_bipush (v := 10) dX6_readsCell_174 (by decide) ?_
          refine aw_icmp_neN (B p) 10 262 dX6_readsCell_176 (by decide) rfl rfl (by omega) (by omega) (fun c6 => absurd (by omega) c6) (fun c6 => ?_)
          refine aw_aload_n dX6_readsCell_179 2 rfl ?_
          refine aw_aload_n dX6_readsCell_180 2 rfl ?_
          refine aw_getI dX6_readsCell_181 fl_X6_289 (((sT.I (stI A 0 24 (nI (p + 1))) 4 ((12 * (12 + t)) + j) (nI (B p))).TR ((sT.I A 0 24 (nI (p + 1))).TR hT)).s 0 (by decide)) (((sT.I (stI A 0 24 (nI (p + 1))) 4 ((12 * (12 + t)) + j) (nI (B p))).TR ((sT.I A 0 24 (nI (p + 1))).TR hT)).n 0 (by decide)) ?_
          refine aw_topE hp1 ?_
          refine aw_callVi [.int (nI (p + 1))] [] (sp_by (d := d - 1) hD1 cl1) dX6_readsCell_184 ml_X6_292 im_X6_byteAt (((sT.I (stI A 0 24 (nI (p + 1))) 4 ((12 * (12 + t)) + j) (nI (B p))).TR ((sT.I A 0 24 (nI (p + 1))).TR hT)).s 0 (by decide)) (((sT.I (stI A 0 24 (nI (p + 1))) 4 ((12 * (12 + t)) + j) (nI (B p))).TR ((sT.I A 0 24 (nI (p + 1))).TR hT)).n 0 (by decide)) rfl rfl (dl1 (d := d) (by omega)) rfl rfl (Nat.le_of_ble_eq_true rfl) rfl rfl (Nat.zero_le _) (Nat.zero_le _) ?_
          refine aw_istore [(5, .int (nI (B (p + 1)))), (4, .int (nI ((12 * (12 + t)) + j))), (3, .int (nI (B p))), (0, .ref 0), (1, .int (nI (12 + t))), (2, .int (nI j))] dX6_readsCell_187 (Nat.le_of_ble_eq_true rfl) rfl ?_
          refine aw_iload dX6_readsCell_189 0 rfl ?_
          refine aw_if_lt 228 dX6_readsCell_191 (by decide) (fun c7 => absurd c7 (nI_nn (by omega))) (fun c7 => ?_)
          refine aw_iload dX6_readsCell_194 0 rfl ?_
          refine aw_aload_n dX6_readsCell_196 3 rfl ?_
          refine aw_getI dX6_readsCell_197 fl_X6_327 (((sT.I (stI A 0 24 (nI (p + 1))) 4 ((12 * (12 + t)) + j) (nI (B p))).TR ((sT.I A 0 24 (nI (p + 1))).TR hT)).s 0 (by decide)) (((sT.I (stI A 0 24 (nI (p + 1))) 4 ((12 * (12 + t)) + j) (nI (B p))).TR ((sT.I A 0 24 (nI (p + 1))).TR hT)).n 0 (by decide)) ?_
          refine aw_topE ((congrFun (mI_stI_c _ _ _ (by decide)) 26).trans ((mI_stI_o _ _ _ _ (by decide)).trans hC.2.2.2.1)) ?_
          refine aw_icmp_geN (B (p + 1)) R.1 228 dX6_readsCell_200 (by decide) rfl rfl (by omega) (by omega) (fun c8 => absurd c8 (by omega)) (fun c8 => ?_)
          refine aw_aload_n dX6_readsCell_203 3 rfl ?_
          refine aw_getR (b := 1) dX6_readsCell_204 fl_X6_7 rfl (((sT.I (stI A 0 24 (nI (p + 1))) 4 ((12 * (12 + t)) + j) (nI (B p))).TR ((sT.I A 0 24 (nI (p + 1))).TR hT)).s 0 (by decide)) (((sT.I (stI A 0 24 (nI (p + 1))) 4 ((12 * (12 + t)) + j) (nI (B p))).TR ((sT.I A 0 24 (nI (p + 1))).TR hT)).n 0 (by decide)) (((sT.I (stI A 0 24 (nI (p + 1))) 4 ((12 * (12 + t)) + j) (nI (B p))).TR ((sT.I A 0 24 (nI (p + 1))).TR hT)).r 0) ?_
          refine aw_iload_n dX6_readsCell_207 4 rfl ?_
          refine aw_ialdN (12 + t) dX6_readsCell_208 (((sT.I (stI A 0 24 (nI (p + 1))) 4 ((12 * (12 + t)) + j) (nI (B p))).TR ((sT.I A 0 24 (nI (p + 1))).TR hT)).s 1 (by decide)) (((sT.I (stI A 0 24 (nI (p + 1))) 4 ((12 * (12 + t)) + j) (nI (B p))).TR ((sT.I A 0 24 (nI (p + 1))).TR hT)).n 1 (by decide)) rfl (by omega) (by first | decide | omega) ?_
          refine aw_topE ((congrFun (mI_stI_c _ _ _ (by decide)) (12 + t)).trans ((congrFun (mI_stI_c _ _ _ (by decide)) (12 + t)).trans hk)) ?_
          refine aw_bipush (v := 13) dX6_readsCell_209 (by decide) ?_
          refine aw_icmp_neN k 13 239 dX6_readsCell_211 (by decide) rfl rfl (by omega) (by omega) (fun c9 => ?_) (fun c9 => absurd c9 k13)
          refine aw_aload_n dX6_readsCell_239 3 rfl ?_
          refine aw_dup dX6_readsCell_240 rfl ?_
          refine aw_getI dX6_readsCell_241 fl_X6_289 (((sT.I (stI A 0 24 (nI (p + 1))) 4 ((12 * (12 + t)) + j) (nI (B p))).TR ((sT.I A 0 24 (nI (p + 1))).TR hT)).s 0 (by decide)) (((sT.I (stI A 0 24 (nI (p + 1))) 4 ((12 * (12 + t)) + j) (nI (B p))).TR ((sT.I A 0 24 (nI (p + 1))).TR hT)).n 0 (by decide)) ?_
          refine aw_topE hp1 ?_
          refine aw_iconst (v := 1) dX6_readsCell_244 (by decide) ?_
          refine aw_iaddN (p + 1) 1 dX6_readsCell_245 rfl rfl ?_
          refine aw_putI dX6_readsCell_246 fl_X6_289 (Or.inl rfl) (((sT.I (stI A 0 24 (nI (p + 1))) 4 ((12 * (12 + t)) + j) (nI (B p))).TR ((sT.I A 0 24 (nI (p + 1))).TR hT)).s 0 (by decide)) (((sT.I (stI A 0 24 (nI (p + 1))) 4 ((12 * (12 + t)) + j) (nI (B p))).TR ((sT.I A 0 24 (nI (p + 1))).TR hT)).n 0 (by decide)) ?_
          refine aw_aload_n dX6_readsCell_249 3 rfl ?_
          refine aw_getR (b := 5) dX6_readsCell_250 fl_X6_23 rfl (((sT.I (stI (stI A 0 24 (nI (p + 1))) 4 ((12 * (12 + t)) + j) (nI (B p))) 0 24 (nI ((p + 1) + 1))).TR ((sT.I (stI A 0 24 (nI (p + 1))) 4 ((12 * (12 + t)) + j) (nI (B p))).TR ((sT.I A 0 24 (nI (p + 1))).TR hT))).s 0 (by decide)) (((sT.I (stI (stI A 0 24 (nI (p + 1))) 4 ((12 * (12 + t)) + j) (nI (B p))) 0 24 (nI ((p + 1) + 1))).TR ((sT.I (stI A 0 24 (nI (p + 1))) 4 ((12 * (12 + t)) + j) (nI (B p))).TR ((sT.I A 0 24 (nI (p + 1))).TR hT))).n 0 (by decide)) (((sT.I (stI (stI A 0 24 (nI (p + 1))) 4 ((12 * (12 + t)) + j) (nI (B p))) 0 24 (nI ((p + 1) + 1))).TR ((sT.I (stI A 0 24 (nI (p + 1))) 4 ((12 * (12 + t)) + j) (nI (B p))).TR ((sT.I A 0 24 (nI (p + 1))).TR hT))).r 4) ?_
          refine aw_iload dX6_readsCell_253 1 rfl ?_
          refine aw_bipush (v := 12) dX6_readsCell_255 (by decide) ?_
          refine aw_iload dX6_readsCell_257 0 rfl ?_
          refine aw_iaddN 12 (B (p + 1)) dX6_readsCell_259 rfl rfl ?_
          refine aw_i2lN (12 + (B (p + 1))) dX6_readsCell_260 rfl (by omega) ?_
          refine aw_lastN ((12 * (12 + t)) + j) dX6_readsCell_261 (((sT.I (stI (stI A 0 24 (nI (p + 1))) 4 ((12 * (12 + t)) + j) (nI (B p))) 0 24 (nI ((p + 1) + 1))).TR ((sT.I (stI A 0 24 (nI (p + 1))) 4 ((12 * (12 + t)) + j) (nI (B p))).TR ((sT.I A 0 24 (nI (p + 1))).TR hT))).s 5 (by decide)) (((sT.I (stI (stI A 0 24 (nI (p + 1))) 4 ((12 * (12 + t)) + j) (nI (B p))) 0 24 (nI ((p + 1) + 1))).TR ((sT.I (stI A 0 24 (nI (p + 1))) 4 ((12 * (12 + t)) + j) (nI (B p))).TR ((sT.I A 0 24 (nI (p + 1))).TR hT))).n 5 (by decide)) rfl (by omega) (by first | decide | omega) ?_
          refine aw_ret dX6_readsCell_262 rfl (Nat.zero_le _) (Nat.zero_le _) ?_
          have q := hC.cel (j := j) (w := B p) ht (by omega) (by omega) (lN (B (p + 1))) (p + 1 + 1)
          rw [show vR (B p) (lN (B (p + 1))) = lN (12 + B (p + 1)) by unfold vR; rw [if_pos c, lC_N (by omega)]] at q
          exact ⟨rfl, q, (hsk.t (SK_i _ (nI (p + 1 + 1)) (by decide))).t (SK_l _ _ _)⟩
      · rw [if_neg (fun z => cu z.2.1)]
        refine aw_aload_n dX6_readsCell_0 0 rfl ?_
        refine aw_aload_n dX6_readsCell_1 0 rfl ?_
        refine aw_getI dX6_readsCell_2 fl_X6_289 (hT.s 0 (by decide)) (hT.n 0 (by decide)) ?_
        refine aw_topE hC.2.1 ?_
        refine aw_callVi [.int (nI p)] [] (sp_by (d := d - 1) hD cl) dX6_readsCell_5 ml_X6_292 im_X6_byteAt (hT.s 0 (by decide)) (hT.n 0 (by decide)) rfl rfl (dl1 (d := d) (by omega)) rfl rfl (Nat.le_of_ble_eq_true rfl) rfl rfl (Nat.zero_le _) (Nat.zero_le _) ?_
        refine aw_istore_n [(3, .int (nI (B p))), (0, .ref 0), (1, .int (nI (12 + t))), (2, .int (nI j))] dX6_readsCell_8 (Nat.le_of_ble_eq_true rfl) rfl ?_
        refine aw_aload_n dX6_readsCell_9 1 rfl ?_
        refine aw_aload_n dX6_readsCell_10 1 rfl ?_
        refine aw_getR (b := 1) dX6_readsCell_11 fl_X6_7 rfl (hT.s 0 (by decide)) (hT.n 0 (by decide)) (hT.r 0) ?_
        refine aw_iload_n dX6_readsCell_14 2 rfl ?_
        refine aw_ialdN (12 + t) dX6_readsCell_15 (hT.s 1 (by decide)) (hT.n 1 (by decide)) rfl (by omega) (by first | decide | omega) ?_
        refine aw_topE hk ?_
        refine aw_iload_n dX6_readsCell_16 0 rfl ?_
        refine aw_callVi [.int (nI k), .int (nI (B p))] [] (sp_X6_mayStand (d := d - 1) (by omega) (nI k) (nI (B p)) hT) dX6_readsCell_17 ml_X6_342 im_X6_mayStand (hT.s 0 (by decide)) (hT.n 0 (by decide)) rfl rfl (dl1 (d := d) (by omega)) rfl rfl (Nat.le_of_ble_eq_true rfl) rfl rfl (Nat.zero_le _) (Nat.zero_le _) ?_
        refine aw_if_ne 32 dX6_readsCell_20 (by decide) (fun c1 => ?_) (fun c1 => absurd c1 (bz_n0.mpr hms))
        refine aw_bipush (v := 12) dX6_readsCell_32 (by decide) ?_
        refine aw_iload_n dX6_readsCell_34 2 rfl ?_
        refine aw_imulN 12 (12 + t) dX6_readsCell_35 rfl rfl ?_
        refine aw_iload_n dX6_readsCell_36 3 rfl ?_
        refine aw_iaddN (12 * (12 + t)) j dX6_readsCell_37 rfl rfl ?_
        refine aw_istore [(4, .int (nI ((12 * (12 + t)) + j))), (3, .int (nI (B p))), (0, .ref 0), (1, .int (nI (12 + t))), (2, .int (nI j))] dX6_readsCell_38 (Nat.le_of_ble_eq_true rfl) rfl ?_
        refine aw_iload_n dX6_readsCell_40 1 rfl ?_
        refine aw_callSi [.int (nI (B p))] [] (sp_X6_isRowTag (d := d - 1) (by omega) (nI (B p))) dX6_readsCell_41 ml_X6_339 sm_X6_isRowTag rfl (dl1 (d := d) (by omega)) rfl rfl (Nat.le_of_ble_eq_true rfl) rfl rfl (Nat.zero_le _) (Nat.zero_le _) ?_
        refine aw_if_eq 76 dX6_readsCell_44 (by decide) (fun c2 => ?_) (fun c2 => absurd (bz_0.mpr htg) c2)
        refine aw_aload_n dX6_readsCell_76 2 rfl ?_
        refine aw_dup dX6_readsCell_77 rfl ?_
        refine aw_getI dX6_readsCell_78 fl_X6_289 (hT.s 0 (by decide)) (hT.n 0 (by decide)) ?_
        refine aw_topE hC.2.1 ?_
        refine aw_iconst (v := 1) dX6_readsCell_81 (by decide) ?_
        refine aw_iaddN p 1 dX6_readsCell_82 rfl rfl ?_
        refine aw_putI dX6_readsCell_83 fl_X6_289 (Or.inl rfl) (hT.s 0 (by decide)) (hT.n 0 (by decide)) ?_
        refine aw_aload_n dX6_readsCell_86 2 rfl ?_
        refine aw_getR (b := 4) dX6_readsCell_87 fl_X6_20 rfl (((sT.I A 0 24 (nI (p + 1))).TR hT).s 0 (by decide)) (((sT.I A 0 24 (nI (p + 1))).TR hT).n 0 (by decide)) (((sT.I A 0 24 (nI (p + 1))).TR hT).r 3) ?_
        refine aw_iload dX6_readsCell_90 0 rfl ?_
        refine aw_iload_n dX6_readsCell_92 1 rfl ?_
        refine aw_iastN ((12 * (12 + t)) + j) dX6_readsCell_93 (((sT.I A 0 24 (nI (p + 1))).TR hT).s 4 (by decide)) (((sT.I A 0 24 (nI (p + 1))).TR hT).n 4 (by decide)) rfl (by omega) (by first | decide | omega) ?_
        refine aw_iload_n dX6_readsCell_94 1 rfl ?_
        refine aw_bipush (v := 8) dX6_readsCell_95 (by decide) ?_
        refine aw_icmp_geN (B p) 8 115 dX6_readsCell_97 (by decide) rfl rfl (by omega) (by omega) (fun c3 => ?_) (fun c3 => absurd (by omega) c3)
        refine aw_iload_n dX6_readsCell_115 1 rfl ?_
        refine aw_bipush (v := 8) dX6_readsCell_116 (by decide) ?_
        refine aw_icmp_neN (B p) 8 135 dX6_readsCell_118 (by decide) rfl rfl (by omega) (by omega) (fun c4 => ?_) (fun c4 => absurd c4 (by omega))
        refine aw_iload_n dX6_readsCell_135 1 rfl ?_
        refine aw_bipush (v := 9) dX6_readsCell_136 (by decide) ?_
        refine aw_icmp_neN (B p) 9 173 dX6_readsCell_138 (by decide) rfl rfl (by omega) (by omega) (fun c5 => ?_) (fun c5 => absurd c5 (by omega))
        refine aw_iload_n dX6_readsCell_173 1 rfl ?_
        refine aw_bipush (v := 10) dX6_readsCell_174 (by decide) ?_
        refine aw_icmp_neN (B p) 10 262 dX6_readsCell_176 (by decide) rfl rfl (by omega) (by omega) (fun c6 => absurd (by omega) c6) (fun c6 => ?_)
        refine aw_aload_n dX6_readsCell_179 2 rfl ?_
        refine aw_aload_n dX6_readsCell_180 2 rfl ?_
        refine aw_getI dX6_readsCell_181 fl_X6_289 (((sT.I (stI A 0 24 (nI (p + 1))) 4 ((12 * (12 + t)) + j) (nI (B p))).TR ((sT.I A 0 24 (nI (p + 1))).TR hT)).s 0 (by decide)) (((sT.I (stI A 0 24 (nI (p + 1))) 4 ((12 * (12 + t)) + j) (nI (B p))).TR ((sT.I A 0 24 (nI (p + 1))).TR hT)).n 0 (by decide)) ?_
        refine aw_topE hp1 ?_
        refine aw_callVi [.int (nI (p + 1))] [] (sp_by (d := d - 1) hD1 cl1) dX6_readsCell_184 ml_X6_292 im_X6_byteAt (((sT.I (stI A 0 24 (nI (p + 1))) 4 ((12 * (12 + t)) + j) (nI (B p))).TR ((sT.I A 0 24 (nI (p + 1))).TR hT)).s 0 (by decide)) (((sT.I (stI A 0 24 (nI (p + 1))) 4 ((12 * (12 + t)) + j) (nI (B p))).TR ((sT.I A 0 24 (nI (p + 1))).TR hT)).n 0 (by decide)) rfl rfl (dl1 (d := d) (by omega)) rfl rfl (Nat.le_of_ble_eq_true rfl) rfl rfl (Nat.zero_le _) (Nat.zero_le _) ?_
        refine aw_istore [(5, .int (nI (B (p + 1)))), (4, .int (nI ((12 * (12 + t)) + j))), (3, .int (nI (B p))), (0, .ref 0), (1, .int (nI (12 + t))), (2, .int (nI j))] dX6_readsCell_187 (Nat.le_of_ble_eq_true rfl) rfl ?_
        refine aw_iload dX6_readsCell_189 0 rfl ?_
        refine aw_if_lt 228 dX6_readsCell_191 (by decide) (fun c7 => absurd c7 (nI_nn (by omega))) (fun c7 => ?_)
        refine aw_iload dX6_readsCell_194 0 rfl ?_
        refine aw_aload_n dX6_readsCell_196 3 rfl ?_
        refine aw_getI dX6_readsCell_197 fl_X6_327 (((sT.I (stI A 0 24 (nI (p + 1))) 4 ((12 * (12 + t)) + j) (nI (B p))).TR ((sT.I A 0 24 (nI (p + 1))).TR hT)).s 0 (by decide)) (((sT.I (stI A 0 24 (nI (p + 1))) 4 ((12 * (12 + t)) + j) (nI (B p))).TR ((sT.I A 0 24 (nI (p + 1))).TR hT)).n 0 (by decide)) ?_
        refine aw_topE ((congrFun (mI_stI_c _ _ _ (by decide)) 26).trans ((mI_stI_o _ _ _ _ (by decide)).trans hC.2.2.2.1)) ?_
        refine aw_icmp_geN (B (p + 1)) R.1 228 dX6_readsCell_200 (by decide) rfl rfl (by omega) (by omega) (fun c8 => ?_) (fun c8 => absurd (by omega) c8)
        refine aw_aload_n dX6_readsCell_228 3 rfl ?_
        refine aw_aload_n dX6_readsCell_229 3 rfl ?_
        refine aw_getI dX6_readsCell_230 fl_X6_289 (((sT.I (stI A 0 24 (nI (p + 1))) 4 ((12 * (12 + t)) + j) (nI (B p))).TR ((sT.I A 0 24 (nI (p + 1))).TR hT)).s 0 (by decide)) (((sT.I (stI A 0 24 (nI (p + 1))) 4 ((12 * (12 + t)) + j) (nI (B p))).TR ((sT.I A 0 24 (nI (p + 1))).TR hT)).n 0 (by decide)) ?_
        refine aw_topE hp1 ?_
        refine aw_callVv [.int (nI (p + 1))] [] (sp_fa (d := d - 1) (nI (p + 1)) ((sT.I (stI A 0 24 (nI (p + 1))) 4 ((12 * (12 + t)) + j) (nI (B p))).TR ((sT.I A 0 24 (nI (p + 1))).TR hT)) hf1) dX6_readsCell_233 ml_X6_295 im_X6_faults (((sT.I (stI A 0 24 (nI (p + 1))) 4 ((12 * (12 + t)) + j) (nI (B p))).TR ((sT.I A 0 24 (nI (p + 1))).TR hT)).s 0 (by decide)) (((sT.I (stI A 0 24 (nI (p + 1))) 4 ((12 * (12 + t)) + j) (nI (B p))).TR ((sT.I A 0 24 (nI (p + 1))).TR hT)).n 0 (by decide)) rfl rfl (dl1 (d := d) (by omega)) rfl rfl (Nat.le_of_ble_eq_true rfl) rfl rfl (Nat.zero_le _) (Nat.zero_le _) ?_
        refine aw_goto 262 dX6_readsCell_236 (by decide) ?_
        refine aw_ret dX6_readsCell_262 rfl (Nat.zero_le _) (Nat.zero_le _) ?_
        exact ⟨rfl, hF1.i 25 (nI (p + 1)) (by decide), mI_stI_v _ _ _ _⟩
    · rw [if_neg (fun z => cl1 z.1)]
      refine aw_aload_n dX6_readsCell_0 0 rfl ?_
      refine aw_aload_n dX6_readsCell_1 0 rfl ?_
      refine aw_getI dX6_readsCell_2 fl_X6_289 (hT.s 0 (by decide)) (hT.n 0 (by decide)) ?_
      refine aw_topE hC.2.1 ?_
      refine aw_callVi [.int (nI p)] [] (sp_by (d := d - 1) hD cl) dX6_readsCell_5 ml_X6_292 im_X6_byteAt (hT.s 0 (by decide)) (hT.n 0 (by decide)) rfl rfl (dl1 (d := d) (by omega)) rfl rfl (Nat.le_of_ble_eq_true rfl) rfl rfl (Nat.zero_le _) (Nat.zero_le _) ?_
      refine aw_istore_n [(3, .int (nI (B p))), (0, .ref 0), (1, .int (nI (12 + t))), (2, .int (nI j))] dX6_readsCell_8 (Nat.le_of_ble_eq_true rfl) rfl ?_
      refine aw_aload_n dX6_readsCell_9 1 rfl ?_
      refine aw_aload_n dX6_readsCell_10 1 rfl ?_
      refine aw_getR (b := 1) dX6_readsCell_11 fl_X6_7 rfl (hT.s 0 (by decide)) (hT.n 0 (by decide)) (hT.r 0) ?_
      refine aw_iload_n dX6_readsCell_14 2 rfl ?_
      refine aw_ialdN (12 + t) dX6_readsCell_15 (hT.s 1 (by decide)) (hT.n 1 (by decide)) rfl (by omega) (by first | decide | omega) ?_
      refine aw_topE hk ?_
      refine aw_iload_n dX6_readsCell_16 0 rfl ?_
      refine aw_callVi [.int (nI k), .int (nI (B p))] [] (sp_X6_mayStand (d := d - 1) (by omega) (nI k) (nI (B p)) hT) dX6_readsCell_17 ml_X6_342 im_X6_mayStand (hT.s 0 (by decide)) (hT.n 0 (by decide)) rfl rfl (dl1 (d := d) (by omega)) rfl rfl (Nat.le_of_ble_eq_true rfl) rfl rfl (Nat.zero_le _) (Nat.zero_le _) ?_
      refine aw_if_ne 32 dX6_readsCell_20 (by decide) (fun c1 => ?_) (fun c1 => absurd c1 (bz_n0.mpr hms))
      refine aw_bipush (v := 12) dX6_readsCell_32 (by decide) ?_
      refine aw_iload_n dX6_readsCell_34 2 rfl ?_
      refine aw_imulN 12 (12 + t) dX6_readsCell_35 rfl rfl ?_
      refine aw_iload_n dX6_readsCell_36 3 rfl ?_
      refine aw_iaddN (12 * (12 + t)) j dX6_readsCell_37 rfl rfl ?_
      refine aw_istore [(4, .int (nI ((12 * (12 + t)) + j))), (3, .int (nI (B p))), (0, .ref 0), (1, .int (nI (12 + t))), (2, .int (nI j))] dX6_readsCell_38 (Nat.le_of_ble_eq_true rfl) rfl ?_
      refine aw_iload_n dX6_readsCell_40 1 rfl ?_
      refine aw_callSi [.int (nI (B p))] [] (sp_X6_isRowTag (d := d - 1) (by omega) (nI (B p))) dX6_readsCell_41 ml_X6_339 sm_X6_isRowTag rfl (dl1 (d := d) (by omega)) rfl rfl (Nat.le_of_ble_eq_true rfl) rfl rfl (Nat.zero_le _) (Nat.zero_le _) ?_
      refine aw_if_eq 76 dX6_readsCell_44 (by decide) (fun c2 => ?_) (fun c2 => absurd (bz_0.mpr htg) c2)
      refine aw_aload_n dX6_readsCell_76 2 rfl ?_
      refine aw_dup dX6_readsCell_77 rfl ?_
      refine aw_getI dX6_readsCell_78 fl_X6_289 (hT.s 0 (by decide)) (hT.n 0 (by decide)) ?_
      refine aw_topE hC.2.1 ?_
      refine aw_iconst (v := 1) dX6_readsCell_81 (by decide) ?_
      refine aw_iaddN p 1 dX6_readsCell_82 rfl rfl ?_
      refine aw_putI dX6_readsCell_83 fl_X6_289 (Or.inl rfl) (hT.s 0 (by decide)) (hT.n 0 (by decide)) ?_
      refine aw_aload_n dX6_readsCell_86 2 rfl ?_
      refine aw_getR (b := 4) dX6_readsCell_87 fl_X6_20 rfl (((sT.I A 0 24 (nI (p + 1))).TR hT).s 0 (by decide)) (((sT.I A 0 24 (nI (p + 1))).TR hT).n 0 (by decide)) (((sT.I A 0 24 (nI (p + 1))).TR hT).r 3) ?_
      refine aw_iload dX6_readsCell_90 0 rfl ?_
      refine aw_iload_n dX6_readsCell_92 1 rfl ?_
      refine aw_iastN ((12 * (12 + t)) + j) dX6_readsCell_93 (((sT.I A 0 24 (nI (p + 1))).TR hT).s 4 (by decide)) (((sT.I A 0 24 (nI (p + 1))).TR hT).n 4 (by decide)) rfl (by omega) (by first | decide | omega) ?_
      refine aw_iload_n dX6_readsCell_94 1 rfl ?_
      refine aw_bipush (v := 8) dX6_readsCell_95 (by decide) ?_
      refine aw_icmp_geN (B p) 8 115 dX6_readsCell_97 (by decide) rfl rfl (by omega) (by omega) (fun c3 => ?_) (fun c3 => absurd (by omega) c3)
      refine aw_iload_n dX6_readsCell_115 1 rfl ?_
      refine aw_bipush (v := 8) dX6_readsCell_116 (by decide) ?_
      refine aw_icmp_neN (B p) 8 135 dX6_readsCell_118 (by decide) rfl rfl (by omega) (by omega) (fun c4 => ?_) (fun c4 => absurd c4 (by omega))
      refine aw_iload_n dX6_readsCell_135 1 rfl ?_
      refine aw_bipush (v := 9) dX6_readsCell_136 (by decide) ?_
      refine aw_icmp_neN (B p) 9 173 dX6_readsCell_138 (by decide) rfl rfl (by omega) (by omega) (fun c5 => ?_) (fun c5 => absurd c5 (by omega))
      refine aw_iload_n dX6_readsCell_173 1 rfl ?_
      refine aw_bipush (v := 10) dX6_readsCell_174 (by decide) ?_
      refine aw_icmp_neN (B p) 10 262 dX6_readsCell_176 (by decide) rfl rfl (by omega) (by omega) (fun c6 => absurd (by omega) c6) (fun c6 => ?_)
      refine aw_aload_n dX6_readsCell_179 2 rfl ?_
      refine aw_aload_n dX6_readsCell_180 2 rfl ?_
      refine aw_getI dX6_readsCell_181 fl_X6_289 (((sT.I (stI A 0 24 (nI (p + 1))) 4 ((12 * (12 + t)) + j) (nI (B p))).TR ((sT.I A 0 24 (nI (p + 1))).TR hT)).s 0 (by decide)) (((sT.I (stI A 0 24 (nI (p + 1))) 4 ((12 * (12 + t)) + j) (nI (B p))).TR ((sT.I A 0 24 (nI (p + 1))).TR hT)).n 0 (by decide)) ?_
      refine aw_topE hp1 ?_
      refine aw_callVi [.int (nI (p + 1))] [] (sp_byn (d := d - 1) hD1 cl1 (by omega)) dX6_readsCell_184 ml_X6_292 im_X6_byteAt (((sT.I (stI A 0 24 (nI (p + 1))) 4 ((12 * (12 + t)) + j) (nI (B p))).TR ((sT.I A 0 24 (nI (p + 1))).TR hT)).s 0 (by decide)) (((sT.I (stI A 0 24 (nI (p + 1))) 4 ((12 * (12 + t)) + j) (nI (B p))).TR ((sT.I A 0 24 (nI (p + 1))).TR hT)).n 0 (by decide)) rfl rfl (dl1 (d := d) (by omega)) rfl rfl (Nat.le_of_ble_eq_true rfl) rfl rfl (Nat.zero_le _) (Nat.zero_le _) ?_
      refine aw_istore [(5, .int (-1)), (4, .int (nI ((12 * (12 + t)) + j))), (3, .int (nI (B p))), (0, .ref 0), (1, .int (nI (12 + t))), (2, .int (nI j))] dX6_readsCell_187 (Nat.le_of_ble_eq_true rfl) rfl ?_
      refine aw_iload dX6_readsCell_189 0 rfl ?_
      refine aw_if_lt 228 dX6_readsCell_191 (by decide) (fun c7 => ?_) (fun c7 => absurd (by decide) c7)
      refine aw_aload_n dX6_readsCell_228 3 rfl ?_
      refine aw_aload_n dX6_readsCell_229 3 rfl ?_
      refine aw_getI dX6_readsCell_230 fl_X6_289 (((sT.I (stI A 0 24 (nI (p + 1))) 4 ((12 * (12 + t)) + j) (nI (B p))).TR ((sT.I A 0 24 (nI (p + 1))).TR hT)).s 0 (by decide)) (((sT.I (stI A 0 24 (nI (p + 1))) 4 ((12 * (12 + t)) + j) (nI (B p))).TR ((sT.I A 0 24 (nI (p + 1))).TR hT)).n 0 (by decide)) ?_
      refine aw_topE hp1 ?_
      refine aw_callVv [.int (nI (p + 1))] [] (sp_fa (d := d - 1) (nI (p + 1)) ((sT.I (stI A 0 24 (nI (p + 1))) 4 ((12 * (12 + t)) + j) (nI (B p))).TR ((sT.I A 0 24 (nI (p + 1))).TR hT)) hf1) dX6_readsCell_233 ml_X6_295 im_X6_faults (((sT.I (stI A 0 24 (nI (p + 1))) 4 ((12 * (12 + t)) + j) (nI (B p))).TR ((sT.I A 0 24 (nI (p + 1))).TR hT)).s 0 (by decide)) (((sT.I (stI A 0 24 (nI (p + 1))) 4 ((12 * (12 + t)) + j) (nI (B p))).TR ((sT.I A 0 24 (nI (p + 1))).TR hT)).n 0 (by decide)) rfl rfl (dl1 (d := d) (by omega)) rfl rfl (Nat.le_of_ble_eq_true rfl) rfl rfl (Nat.zero_le _) (Nat.zero_le _) ?_
      refine aw_goto 262 dX6_readsCell_236 (by decide) ?_
      refine aw_ret dX6_readsCell_262 rfl (Nat.zero_le _) (Nat.zero_le _) ?_
      exact ⟨rfl, hF1.i 25 (nI (p + 1)) (by decide), mI_stI_v _ _ _ _⟩
  · rw [if_neg (by omega), if_neg (by omega), if_neg (by omega), if_pos c]
    have q := hC.nul ht (by omega) hj (by omega) hw hv
    refine aw_aload_n dX6_readsCell_0 0 rfl ?_
    refine aw_aload_n dX6_readsCell_1 0 rfl ?_
    refine aw_getI dX6_readsCell_2 fl_X6_289 (hT.s 0 (by decide)) (hT.n 0 (by decide)) ?_
    refine aw_topE hC.2.1 ?_
    refine aw_callVi [.int (nI p)] [] (sp_by (d := d - 1) hD cl) dX6_readsCell_5 ml_X6_292 im_X6_byteAt (hT.s 0 (by decide)) (hT.n 0 (by decide)) rfl rfl (dl1 (d := d) (by omega)) rfl rfl (Nat.le_of_ble_eq_true rfl) rfl rfl (Nat.zero_le _) (Nat.zero_le _) ?_
    refine aw_istore_n [(3, .int (nI (B p))), (0, .ref 0), (1, .int (nI (12 + t))), (2, .int (nI j))] dX6_readsCell_8 (Nat.le_of_ble_eq_true rfl) rfl ?_
    refine aw_aload_n dX6_readsCell_9 1 rfl ?_
    refine aw_aload_n dX6_readsCell_10 1 rfl ?_
    refine aw_getR (b := 1) dX6_readsCell_11 fl_X6_7 rfl (hT.s 0 (by decide)) (hT.n 0 (by decide)) (hT.r 0) ?_
    refine aw_iload_n dX6_readsCell_14 2 rfl ?_
    refine aw_ialdN (12 + t) dX6_readsCell_15 (hT.s 1 (by decide)) (hT.n 1 (by decide)) rfl (by omega) (by first | decide | omega) ?_
    refine aw_topE hk ?_
    refine aw_iload_n dX6_readsCell_16 0 rfl ?_
    refine aw_callVi [.int (nI k), .int (nI (B p))] [] (sp_X6_mayStand (d := d - 1) (by omega) (nI k) (nI (B p)) hT) dX6_readsCell_17 ml_X6_342 im_X6_mayStand (hT.s 0 (by decide)) (hT.n 0 (by decide)) rfl rfl (dl1 (d := d) (by omega)) rfl rfl (Nat.le_of_ble_eq_true rfl) rfl rfl (Nat.zero_le _) (Nat.zero_le _) ?_
    refine aw_if_ne 32 dX6_readsCell_20 (by decide) (fun c1 => ?_) (fun c1 => absurd c1 (bz_n0.mpr hms))
    refine aw_bipush (v := 12) dX6_readsCell_32 (by decide) ?_
    refine aw_iload_n dX6_readsCell_34 2 rfl ?_
    refine aw_imulN 12 (12 + t) dX6_readsCell_35 rfl rfl ?_
    refine aw_iload_n dX6_readsCell_36 3 rfl ?_
    refine aw_iaddN (12 * (12 + t)) j dX6_readsCell_37 rfl rfl ?_
    refine aw_istore [(4, .int (nI ((12 * (12 + t)) + j))), (3, .int (nI (B p))), (0, .ref 0), (1, .int (nI (12 + t))), (2, .int (nI j))] dX6_readsCell_38 (Nat.le_of_ble_eq_true rfl) rfl ?_
    refine aw_iload_n dX6_readsCell_40 1 rfl ?_
    refine aw_callSi [.int (nI (B p))] [] (sp_X6_isRowTag (d := d - 1) (by omega) (nI (B p))) dX6_readsCell_41 ml_X6_339 sm_X6_isRowTag rfl (dl1 (d := d) (by omega)) rfl rfl (Nat.le_of_ble_eq_true rfl) rfl rfl (Nat.zero_le _) (Nat.zero_le _) ?_
    refine aw_if_eq 76 dX6_readsCell_44 (by decide) (fun c2 => ?_) (fun c2 => absurd (bz_0.mpr htg) c2)
    refine aw_aload_n dX6_readsCell_76 2 rfl ?_
    refine aw_dup dX6_readsCell_77 rfl ?_
    refine aw_getI dX6_readsCell_78 fl_X6_289 (hT.s 0 (by decide)) (hT.n 0 (by decide)) ?_
    refine aw_topE hC.2.1 ?_
    refine aw_iconst (v := 1) dX6_readsCell_81 (by decide) ?_
    refine aw_iaddN p 1 dX6_readsCell_82 rfl rfl ?_
    refine aw_putI dX6_readsCell_83 fl_X6_289 (Or.inl rfl) (hT.s 0 (by decide)) (hT.n 0 (by decide)) ?_
    refine aw_aload_n dX6_readsCell_86 2 rfl ?_
    refine aw_getR (b := 4) dX6_readsCell_87 fl_X6_20 rfl (((sT.I A 0 24 (nI (p + 1))).TR hT).s 0 (by decide)) (((sT.I A 0 24 (nI (p + 1))).TR hT).n 0 (by decide)) (((sT.I A 0 24 (nI (p + 1))).TR hT).r 3) ?_
    refine aw_iload dX6_readsCell_90 0 rfl ?_
    refine aw_iload_n dX6_readsCell_92 1 rfl ?_
    refine aw_iastN ((12 * (12 + t)) + j) dX6_readsCell_93 (((sT.I A 0 24 (nI (p + 1))).TR hT).s 4 (by decide)) (((sT.I A 0 24 (nI (p + 1))).TR hT).n 4 (by decide)) rfl (by omega) (by first | decide | omega) ?_
    refine aw_iload_n dX6_readsCell_94 1 rfl ?_
    refine aw_bipush (v := 8) dX6_readsCell_95 (by decide) ?_
    refine aw_icmp_geN (B p) 8 115 dX6_readsCell_97 (by decide) rfl rfl (by omega) (by omega) (fun c3 => ?_) (fun c3 => absurd (by omega) c3)
    refine aw_iload_n dX6_readsCell_115 1 rfl ?_
    refine aw_bipush (v := 8) dX6_readsCell_116 (by decide) ?_
    refine aw_icmp_neN (B p) 8 135 dX6_readsCell_118 (by decide) rfl rfl (by omega) (by omega) (fun c4 => ?_) (fun c4 => absurd c4 (by omega))
    refine aw_iload_n dX6_readsCell_135 1 rfl ?_
    refine aw_bipush (v := 9) dX6_readsCell_136 (by decide) ?_
    refine aw_icmp_neN (B p) 9 173 dX6_readsCell_138 (by decide) rfl rfl (by omega) (by omega) (fun c5 => ?_) (fun c5 => absurd c5 (by omega))
    refine aw_iload_n dX6_readsCell_173 1 rfl ?_
    refine aw_bipush (v := 10) dX6_readsCell_174 (by decide) ?_
    refine aw_icmp_neN (B p) 10 262 dX6_readsCell_176 (by decide) rfl rfl (by omega) (by omega) (fun c6 => ?_) (fun c6 => absurd c6 (by omega))
    refine aw_ret dX6_readsCell_262 rfl (Nat.zero_le _) (Nat.zero_le _) ?_
    refine ⟨rfl, ?_, hsk⟩
    rw [c]
    exact q
  · rw [if_neg (by omega), if_neg (by omega), if_neg (by omega), if_neg (by omega)]
    have hq := sp_rn (d := d - 1) (k := B p) (by omega) hD1 hp1 (by omega) hf1 c
    cases e : pNum B L (B p) (p + 1) with
    | error f =>
      rw [e] at hq
      refine aw_aload_n dX6_readsCell_0 0 rfl ?_
      refine aw_aload_n dX6_readsCell_1 0 rfl ?_
      refine aw_getI dX6_readsCell_2 fl_X6_289 (hT.s 0 (by decide)) (hT.n 0 (by decide)) ?_
      refine aw_topE hC.2.1 ?_
      refine aw_callVi [.int (nI p)] [] (sp_by (d := d - 1) hD cl) dX6_readsCell_5 ml_X6_292 im_X6_byteAt (hT.s 0 (by decide)) (hT.n 0 (by decide)) rfl rfl (dl1 (d := d) (by omega)) rfl rfl (Nat.le_of_ble_eq_true rfl) rfl rfl (Nat.zero_le _) (Nat.zero_le _) ?_
      refine aw_istore_n [(3, .int (nI (B p))), (0, .ref 0), (1, .int (nI (12 + t))), (2, .int (nI j))] dX6_readsCell_8 (Nat.le_of_ble_eq_true rfl) rfl ?_
      refine aw_aload_n dX6_readsCell_9 1 rfl ?_
      refine aw_aload_n dX6_readsCell_10 1 rfl ?_
      refine aw_getR (b := 1) dX6_readsCell_11 fl_X6_7 rfl (hT.s 0 (by decide)) (hT.n 0 (by decide)) (hT.r 0) ?_
      refine aw_iload_n dX6_readsCell_14 2 rfl ?_
      refine aw_ialdN (12 + t) dX6_readsCell_15 (hT.s 1 (by decide)) (hT.n 1 (by decide)) rfl (by omega) (by first | decide | omega) ?_
      refine aw_topE hk ?_
      refine aw_iload_n dX6_readsCell_16 0 rfl ?_
      refine aw_callVi [.int (nI k), .int (nI (B p))] [] (sp_X6_mayStand (d := d - 1) (by omega) (nI k) (nI (B p)) hT) dX6_readsCell_17 ml_X6_342 im_X6_mayStand (hT.s 0 (by decide)) (hT.n 0 (by decide)) rfl rfl (dl1 (d := d) (by omega)) rfl rfl (Nat.le_of_ble_eq_true rfl) rfl rfl (Nat.zero_le _) (Nat.zero_le _) ?_
      refine aw_if_ne 32 dX6_readsCell_20 (by decide) (fun c1 => ?_) (fun c1 => absurd c1 (bz_n0.mpr hms))
      refine aw_bipush (v := 12) dX6_readsCell_32 (by decide) ?_
      refine aw_iload_n dX6_readsCell_34 2 rfl ?_
      refine aw_imulN 12 (12 + t) dX6_readsCell_35 rfl rfl ?_
      refine aw_iload_n dX6_readsCell_36 3 rfl ?_
      refine aw_iaddN (12 * (12 + t)) j dX6_readsCell_37 rfl rfl ?_
      refine aw_istore [(4, .int (nI ((12 * (12 + t)) + j))), (3, .int (nI (B p))), (0, .ref 0), (1, .int (nI (12 + t))), (2, .int (nI j))] dX6_readsCell_38 (Nat.le_of_ble_eq_true rfl) rfl ?_
      refine aw_iload_n dX6_readsCell_40 1 rfl ?_
      refine aw_callSi [.int (nI (B p))] [] (sp_X6_isRowTag (d := d - 1) (by omega) (nI (B p))) dX6_readsCell_41 ml_X6_339 sm_X6_isRowTag rfl (dl1 (d := d) (by omega)) rfl rfl (Nat.le_of_ble_eq_true rfl) rfl rfl (Nat.zero_le _) (Nat.zero_le _) ?_
      refine aw_if_eq 76 dX6_readsCell_44 (by decide) (fun c2 => ?_) (fun c2 => absurd (bz_0.mpr htg) c2)
      refine aw_aload_n dX6_readsCell_76 2 rfl ?_
      refine aw_dup dX6_readsCell_77 rfl ?_
      refine aw_getI dX6_readsCell_78 fl_X6_289 (hT.s 0 (by decide)) (hT.n 0 (by decide)) ?_
      refine aw_topE hC.2.1 ?_
      refine aw_iconst (v := 1) dX6_readsCell_81 (by decide) ?_
      refine aw_iaddN p 1 dX6_readsCell_82 rfl rfl ?_
      refine aw_putI dX6_readsCell_83 fl_X6_289 (Or.inl rfl) (hT.s 0 (by decide)) (hT.n 0 (by decide)) ?_
      refine aw_aload_n dX6_readsCell_86 2 rfl ?_
      refine aw_getR (b := 4) dX6_readsCell_87 fl_X6_20 rfl (((sT.I A 0 24 (nI (p + 1))).TR hT).s 0 (by decide)) (((sT.I A 0 24 (nI (p + 1))).TR hT).n 0 (by decide)) (((sT.I A 0 24 (nI (p + 1))).TR hT).r 3) ?_
      refine aw_iload dX6_readsCell_90 0 rfl ?_
      refine aw_iload_n dX6_readsCell_92 1 rfl ?_
      refine aw_iastN ((12 * (12 + t)) + j) dX6_readsCell_93 (((sT.I A 0 24 (nI (p + 1))).TR hT).s 4 (by decide)) (((sT.I A 0 24 (nI (p + 1))).TR hT).n 4 (by decide)) rfl (by omega) (by first | decide | omega) ?_
      refine aw_iload_n dX6_readsCell_94 1 rfl ?_
      refine aw_bipush (v := 8) dX6_readsCell_95 (by decide) ?_
      refine aw_icmp_geN (B p) 8 115 dX6_readsCell_97 (by decide) rfl rfl (by omega) (by omega) (fun c3 => absurd c3 (by omega)) (fun c3 => ?_)
      refine aw_aload_n dX6_readsCell_100 2 rfl ?_
      refine aw_getR (b := 5) dX6_readsCell_101 fl_X6_23 rfl (((sT.I (stI A 0 24 (nI (p + 1))) 4 ((12 * (12 + t)) + j) (nI (B p))).TR ((sT.I A 0 24 (nI (p + 1))).TR hT)).s 0 (by decide)) (((sT.I (stI A 0 24 (nI (p + 1))) 4 ((12 * (12 + t)) + j) (nI (B p))).TR ((sT.I A 0 24 (nI (p + 1))).TR hT)).n 0 (by decide)) (((sT.I (stI A 0 24 (nI (p + 1))) 4 ((12 * (12 + t)) + j) (nI (B p))).TR ((sT.I A 0 24 (nI (p + 1))).TR hT)).r 4) ?_
      refine aw_iload dX6_readsCell_104 0 rfl ?_
      refine aw_aload_n dX6_readsCell_106 2 rfl ?_
      refine aw_iload_n dX6_readsCell_107 1 rfl ?_
      refine aw_callVx [.int (nI (B p))] [.int (nI ((12 * (12 + t)) + j)), .ref 5] hq dX6_readsCell_108 ml_X6_316 im_X6_readsNumber (((sT.I (stI A 0 24 (nI (p + 1))) 4 ((12 * (12 + t)) + j) (nI (B p))).TR ((sT.I A 0 24 (nI (p + 1))).TR hT)).s 0 (by decide)) (((sT.I (stI A 0 24 (nI (p + 1))) 4 ((12 * (12 + t)) + j) (nI (B p))).TR ((sT.I A 0 24 (nI (p + 1))).TR hT)).n 0 (by decide)) rfl rfl (dl1 (d := d) (by omega)) rfl rfl (Nat.le_of_ble_eq_true rfl) rfl rfl (Nat.zero_le _) (Nat.zero_le _) (fun r C1 hA1 => ?_)
      obtain ⟨⟨y, rfl⟩, hA1⟩ := hA1
      refine aw_cons ?_
      have hTc := hA1.1.TR hT1
      refine aw_lastN ((12 * (12 + t)) + j) dX6_readsCell_111 (hTc.s 5 (by decide)) (hTc.n 5 (by decide)) rfl (by omega) (by first | decide | omega) ?_
      refine aw_goto 262 dX6_readsCell_112 (by decide) ?_
      refine aw_ret dX6_readsCell_262 rfl (Nat.zero_le _) (Nat.zero_le _) ?_
      exact ⟨rfl, (hF1.e hA1).c (by omega) y, hA1.2.2.2.2⟩
    | ok vp =>
      rw [e] at hq
      refine aw_aload_n dX6_readsCell_0 0 rfl ?_
      refine aw_aload_n dX6_readsCell_1 0 rfl ?_
      refine aw_getI dX6_readsCell_2 fl_X6_289 (hT.s 0 (by decide)) (hT.n 0 (by decide)) ?_
      refine aw_topE hC.2.1 ?_
      refine aw_callVi [.int (nI p)] [] (sp_by (d := d - 1) hD cl) dX6_readsCell_5 ml_X6_292 im_X6_byteAt (hT.s 0 (by decide)) (hT.n 0 (by decide)) rfl rfl (dl1 (d := d) (by omega)) rfl rfl (Nat.le_of_ble_eq_true rfl) rfl rfl (Nat.zero_le _) (Nat.zero_le _) ?_
      refine aw_istore_n [(3, .int (nI (B p))), (0, .ref 0), (1, .int (nI (12 + t))), (2, .int (nI j))] dX6_readsCell_8 (Nat.le_of_ble_eq_true rfl) rfl ?_
      refine aw_aload_n dX6_readsCell_9 1 rfl ?_
      refine aw_aload_n dX6_readsCell_10 1 rfl ?_
      refine aw_getR (b := 1) dX6_readsCell_11 fl_X6_7 rfl (hT.s 0 (by decide)) (hT.n 0 (by decide)) (hT.r 0) ?_
      refine aw_iload_n dX6_readsCell_14 2 rfl ?_
      refine aw_ialdN (12 + t) dX6_readsCell_15 (hT.s 1 (by decide)) (hT.n 1 (by decide)) rfl (by omega) (by first | decide | omega) ?_
      refine aw_topE hk ?_
      refine aw_iload_n dX6_readsCell_16 0 rfl ?_
      refine aw_callVi [.int (nI k), .int (nI (B p))] [] (sp_X6_mayStand (d := d - 1) (by omega) (nI k) (nI (B p)) hT) dX6_readsCell_17 ml_X6_342 im_X6_mayStand (hT.s 0 (by decide)) (hT.n 0 (by decide)) rfl rfl (dl1 (d := d) (by omega)) rfl rfl (Nat.le_of_ble_eq_true rfl) rfl rfl (Nat.zero_le _) (Nat.zero_le _) ?_
      refine aw_if_ne 32 dX6_readsCell_20 (by decide) (fun c1 => ?_) (fun c1 => absurd c1 (bz_n0.mpr hms))
      refine aw_bipush (v := 12) dX6_readsCell_32 (by decide) ?_
      refine aw_iload_n dX6_readsCell_34 2 rfl ?_
      refine aw_imulN 12 (12 + t) dX6_readsCell_35 rfl rfl ?_
      refine aw_iload_n dX6_readsCell_36 3 rfl ?_
      refine aw_iaddN (12 * (12 + t)) j dX6_readsCell_37 rfl rfl ?_
      refine aw_istore [(4, .int (nI ((12 * (12 + t)) + j))), (3, .int (nI (B p))), (0, .ref 0), (1, .int (nI (12 + t))), (2, .int (nI j))] dX6_readsCell_38 (Nat.le_of_ble_eq_true rfl) rfl ?_
      refine aw_iload_n dX6_readsCell_40 1 rfl ?_
      refine aw_callSi [.int (nI (B p))] [] (sp_X6_isRowTag (d := d - 1) (by omega) (nI (B p))) dX6_readsCell_41 ml_X6_339 sm_X6_isRowTag rfl (dl1 (d := d) (by omega)) rfl rfl (Nat.le_of_ble_eq_true rfl) rfl rfl (Nat.zero_le _) (Nat.zero_le _) ?_
      refine aw_if_eq 76 dX6_readsCell_44 (by decide) (fun c2 => ?_) (fun c2 => absurd (bz_0.mpr htg) c2)
      refine aw_aload_n dX6_readsCell_76 2 rfl ?_
      refine aw_dup dX6_readsCell_77 rfl ?_
      refine aw_getI dX6_readsCell_78 fl_X6_289 (hT.s 0 (by decide)) (hT.n 0 (by decide)) ?_
      refine aw_topE hC.2.1 ?_
      refine aw_iconst (v := 1) dX6_readsCell_81 (by decide) ?_
      refine aw_iaddN p 1 dX6_readsCell_82 rfl rfl ?_
      refine aw_putI dX6_readsCell_83 fl_X6_289 (Or.inl rfl) (hT.s 0 (by decide)) (hT.n 0 (by decide)) ?_
      refine aw_aload_n dX6_readsCell_86 2 rfl ?_
      refine aw_getR (b := 4) dX6_readsCell_87 fl_X6_20 rfl (((sT.I A 0 24 (nI (p + 1))).TR hT).s 0 (by decide)) (((sT.I A 0 24 (nI (p + 1))).TR hT).n 0 (by decide)) (((sT.I A 0 24 (nI (p + 1))).TR hT).r 3) ?_
      refine aw_iload dX6_readsCell_90 0 rfl ?_
      refine aw_iload_n dX6_readsCell_92 1 rfl ?_
      refine aw_iastN ((12 * (12 + t)) + j) dX6_readsCell_93 (((sT.I A 0 24 (nI (p + 1))).TR hT).s 4 (by decide)) (((sT.I A 0 24 (nI (p + 1))).TR hT).n 4 (by decide)) rfl (by omega) (by first | decide | omega) ?_
      refine aw_iload_n dX6_readsCell_94 1 rfl ?_
      refine aw_bipush (v := 8) dX6_readsCell_95 (by decide) ?_
      refine aw_icmp_geN (B p) 8 115 dX6_readsCell_97 (by decide) rfl rfl (by omega) (by omega) (fun c3 => absurd c3 (by omega)) (fun c3 => ?_)
      refine aw_aload_n dX6_readsCell_100 2 rfl ?_
      refine aw_getR (b := 5) dX6_readsCell_101 fl_X6_23 rfl (((sT.I (stI A 0 24 (nI (p + 1))) 4 ((12 * (12 + t)) + j) (nI (B p))).TR ((sT.I A 0 24 (nI (p + 1))).TR hT)).s 0 (by decide)) (((sT.I (stI A 0 24 (nI (p + 1))) 4 ((12 * (12 + t)) + j) (nI (B p))).TR ((sT.I A 0 24 (nI (p + 1))).TR hT)).n 0 (by decide)) (((sT.I (stI A 0 24 (nI (p + 1))) 4 ((12 * (12 + t)) + j) (nI (B p))).TR ((sT.I A 0 24 (nI (p + 1))).TR hT)).r 4) ?_
      refine aw_iload dX6_readsCell_104 0 rfl ?_
      refine aw_aload_n dX6_readsCell_106 2 rfl ?_
      refine aw_iload_n dX6_readsCell_107 1 rfl ?_
      refine aw_callVl [.int (nI (B p))] [.int (nI ((12 * (12 + t)) + j)), .ref 5] hq dX6_readsCell_108 ml_X6_316 im_X6_readsNumber (((sT.I (stI A 0 24 (nI (p + 1))) 4 ((12 * (12 + t)) + j) (nI (B p))).TR ((sT.I A 0 24 (nI (p + 1))).TR hT)).s 0 (by decide)) (((sT.I (stI A 0 24 (nI (p + 1))) 4 ((12 * (12 + t)) + j) (nI (B p))).TR ((sT.I A 0 24 (nI (p + 1))).TR hT)).n 0 (by decide)) rfl rfl (dl1 (d := d) (by omega)) rfl rfl (Nat.le_of_ble_eq_true rfl) rfl rfl (Nat.zero_le _) (Nat.zero_le _) ?_
      refine aw_lastN ((12 * (12 + t)) + j) dX6_readsCell_111 (((sT.I (stI (stI A 0 24 (nI (p + 1))) 4 (12 * (12 + t) + j) (nI (B p))) 0 24 (nI vp.2)).TR hT1).s 5 (by decide)) (((sT.I (stI (stI A 0 24 (nI (p + 1))) 4 (12 * (12 + t) + j) (nI (B p))) 0 24 (nI vp.2)).TR hT1).n 5 (by decide)) rfl (by omega) (by first | decide | omega) ?_
      refine aw_goto 262 dX6_readsCell_112 (by decide) ?_
      refine aw_ret dX6_readsCell_262 rfl (Nat.zero_le _) (Nat.zero_le _) ?_
      have q := hC.cel (j := j) (w := B p) ht (by omega) (by omega) vp.1 vp.2
      rw [show vR (B p) vp.1 = vp.1 from if_neg (by omega)] at q
      exact ⟨rfl, q, (hsk.t (SK_i _ (nI vp.2) (by decide))).t (SK_l _ _ _)⟩
