-- NUMBERS PASSED AND WIDENED
noncomputable def unf (v : Int64) : UInt64 := Classical.epsilon (fun u => isD 6 u ∧ smD u ∧ v = fb 6 u)
theorem unf_s {v : Int64} (h : okF 6 v) : isD 6 (unf v) ∧ smD (unf v) ∧ v = fb 6 (unf v) := Classical.epsilon_spec h
theorem isD_67 {u : UInt64} (h : isD 6 u) : isD 7 u := by
  rcases h with h | ⟨s, c, r, ⟨h1, h2, h3, h4, h5, -⟩, e⟩
  · exact Or.inl h
  · exact Or.inr ⟨s, c, r, ⟨h1, h2, h3, h4, h5, fun z => absurd z (by decide)⟩, e⟩
noncomputable def psd (k : Nat) (v : Int64) : Int64 := if k = 6 then fb 6 (FP.f2d (FP.fmul (FP.l2f v) 1040187392)) else if k = 7 then fb 7 (FP.dmul (FP.l2d v) 4593671619917905920) else v
noncomputable def wid (a b : Nat) (v : Int64) : Int64 := if a = b ∨ b ≤ 5 then v else if a = 6 then fb 7 (unf v) else if b = 6 then fb 6 (FP.f2d (FP.l2f v)) else fb 7 (FP.l2d v)
theorem aw_eqL {F : xF} {pc cs ss : Nat} {lv lv' : List (Nat × Value)} {st : List Value} {M : xM} {post : Option Value → xM → Prop} (e : lv = lv') (h : AW F pc lv' st M cs ss post) : AW F pc lv st M cs ss post := e ▸ h
theorem sp_X0_passed {d : Nat} (hd : 4 ≤ d) {M : xM} (k : Nat) (hk : k < 12) (v : Int64) : Sp (fX0_passed d) [.int (nI k), .long v] M (dt (some (.long (psd k v))) M) := by
  refine Sp.of pn_X0 (Nat.le_of_ble_eq_true rfl) (fun h => Bool.noConfusion h) ?_
  unfold psd
  by_cases c6 : k = 6
  · rw [if_pos c6]
    refine aw_iload_n dX0_passed_0 0 rfl ?_
    refine aw_bipush (v := 6) dX0_passed_1 (by decide) ?_
    refine aw_icmp_neN k 6 18 dX0_passed_3 (by decide) rfl rfl (by omega) (by omega) (fun c1 => absurd c6 c1) (fun c1 => ?_)
    refine aw_bipush (v := 6) dX0_passed_6 (by decide) ?_
    refine aw_lload_n dX0_passed_8 1 rfl ?_
    refine aw_l2f dX0_passed_9 ?_
    refine aw_ldcf dX0_passed_10 kc_X0_26 ?_
    refine aw_fmul dX0_passed_12 (gv6 v).2.2.2 ?_
    refine aw_f2d dX0_passed_13 (gv6 v).2.2.1 ?_
    refine aw_callSl [.int 6, .double (FP.f2d (FP.fmul (FP.l2f v) 1040187392))] [] (sp_X0_bitsOf (d := d - 1) (by omega) 6 (by decide) (FP.f2d (FP.fmul (FP.l2f v) 1040187392)) (gv6 v).1) dX0_passed_14 ml_X0_27 sm_X0_bitsOf rfl (dl1 (d := d) (by omega)) rfl rfl (Nat.le_of_ble_eq_true rfl) rfl rfl (Nat.zero_le _) (Nat.zero_le _) ?_
    refine aw_lret dX0_passed_17 rfl (Nat.zero_le _) (Nat.zero_le _) ?_
    exact ⟨rfl, rfl⟩
  · rw [if_neg c6]
    by_cases c7 : k = 7
    · rw [if_pos c7]
      refine aw_iload_n dX0_passed_0 0 rfl ?_
      refine aw_bipush (v := 6) dX0_passed_1 (by decide) ?_
      refine aw_icmp_neN k 6 18 dX0_passed_3 (by decide) rfl rfl (by omega) (by omega) (fun c1 => ?_) (fun c1 => absurd c1 c6)
      refine aw_iload_n dX0_passed_18 0 rfl ?_
      refine aw_bipush (v := 7) dX0_passed_19 (by decide) ?_
      refine aw_icmp_neN k 7 36 dX0_passed_21 (by decide) rfl rfl (by omega) (by omega) (fun c2 => absurd c7 c2) (fun c2 => ?_)
      refine aw_bipush (v := 7) dX0_passed_24 (by decide) ?_
      refine aw_lload_n dX0_passed_26 1 rfl ?_
      refine aw_l2d dX0_passed_27 ?_
      refine aw_ldc2d dX0_passed_28 kc_X0_31 ?_
      refine aw_dmul dX0_passed_31 (gv7 v).2.2 ?_
      refine aw_callSl [.int 7, .double (FP.dmul (FP.l2d v) 4593671619917905920)] [] (sp_X0_bitsOf (d := d - 1) (by omega) 7 (by decide) (FP.dmul (FP.l2d v) 4593671619917905920) (gv7 v).1) dX0_passed_32 ml_X0_27 sm_X0_bitsOf rfl (dl1 (d := d) (by omega)) rfl rfl (Nat.le_of_ble_eq_true rfl) rfl rfl (Nat.zero_le _) (Nat.zero_le _) ?_
      refine aw_lret dX0_passed_35 rfl (Nat.zero_le _) (Nat.zero_le _) ?_
      exact ⟨rfl, rfl⟩
    · rw [if_neg c7]
      refine aw_iload_n dX0_passed_0 0 rfl ?_
      refine aw_bipush (v := 6) dX0_passed_1 (by decide) ?_
      refine aw_icmp_neN k 6 18 dX0_passed_3 (by decide) rfl rfl (by omega) (by omega) (fun c1 => ?_) (fun c1 => absurd c1 c6)
      refine aw_iload_n dX0_passed_18 0 rfl ?_
      refine aw_bipush (v := 7) dX0_passed_19 (by decide) ?_
      refine aw_icmp_neN k 7 36 dX0_passed_21 (by decide) rfl rfl (by omega) (by omega) (fun c2 => ?_) (fun c2 => absurd c2 c7)
      refine aw_lload_n dX0_passed_36 1 rfl ?_
      refine aw_lret dX0_passed_37 rfl (Nat.zero_le _) (Nat.zero_le _) ?_
      exact ⟨rfl, rfl⟩
theorem sp_X6_given {d : Nat} (hd : 2 ≤ d) {M : xM} (k : Nat) (hk : k < 12) (v : Int64) : Sp (fX6_given d) [.int (nI k), .long v] M (dt (some (.long (psd k v))) M) := by
  refine Sp.of pn_X6 (Nat.le_of_ble_eq_true rfl) (fun h => Bool.noConfusion h) ?_
  unfold psd
  by_cases c6 : k = 6
  · rw [if_pos c6]
    refine aw_iload_n dX6_given_0 0 rfl ?_
    refine aw_bipush (v := 6) dX6_given_1 (by decide) ?_
    refine aw_icmp_neN k 6 16 dX6_given_3 (by decide) rfl rfl (by omega) (by omega) (fun c1 => absurd c6 c1) (fun c1 => ?_)
    refine aw_lload_n dX6_given_6 1 rfl ?_
    refine aw_l2f dX6_given_7 ?_
    refine aw_ldcf dX6_given_8 kc_X6_105 ?_
    refine aw_fmul dX6_given_10 (gv6 v).2.2.2 ?_
    refine aw_f2d dX6_given_11 (gv6 v).2.2.1 ?_
    refine aw_callSl [.double (FP.f2d (FP.fmul (FP.l2f v) 1040187392))] [] (sp_X6_floatBits (d := d - 1) (by omega) (FP.f2d (FP.fmul (FP.l2f v) 1040187392)) (gv6 v).1) dX6_given_12 ml_X6_106 sm_X6_floatBits rfl (dl1 (d := d) (by omega)) rfl rfl (Nat.le_of_ble_eq_true rfl) rfl rfl (Nat.zero_le _) (Nat.zero_le _) ?_
    refine aw_lret dX6_given_15 rfl (Nat.zero_le _) (Nat.zero_le _) ?_
    exact ⟨rfl, rfl⟩
  · rw [if_neg c6]
    by_cases c7 : k = 7
    · rw [if_pos c7]
      refine aw_iload_n dX6_given_0 0 rfl ?_
      refine aw_bipush (v := 6) dX6_given_1 (by decide) ?_
      refine aw_icmp_neN k 6 16 dX6_given_3 (by decide) rfl rfl (by omega) (by omega) (fun c1 => ?_) (fun c1 => absurd c1 c6)
      refine aw_iload_n dX6_given_16 0 rfl ?_
      refine aw_bipush (v := 7) dX6_given_17 (by decide) ?_
      refine aw_icmp_neN k 7 34 dX6_given_19 (by decide) rfl rfl (by omega) (by omega) (fun c2 => absurd c7 c2) (fun c2 => ?_)
      refine aw_lload_n dX6_given_22 1 rfl ?_
      refine aw_l2d dX6_given_23 ?_
      refine aw_ldc2d dX6_given_24 kc_X6_110 ?_
      refine aw_dmul dX6_given_27 (gv7 v).2.2 ?_
      refine aw_callSl [.double (FP.dmul (FP.l2d v) 4593671619917905920)] [] (sp_X6_doubleBits (d := d - 1) (by omega) (FP.dmul (FP.l2d v) 4593671619917905920) (gv7 v).1) dX6_given_28 ml_X6_112 sm_X6_doubleBits rfl (dl1 (d := d) (by omega)) rfl rfl (Nat.le_of_ble_eq_true rfl) rfl rfl (Nat.zero_le _) (Nat.zero_le _) ?_
      refine aw_goto 35 dX6_given_31 (by decide) ?_
      refine aw_lret dX6_given_35 rfl (Nat.zero_le _) (Nat.zero_le _) ?_
      exact ⟨rfl, rfl⟩
    · rw [if_neg c7]
      refine aw_iload_n dX6_given_0 0 rfl ?_
      refine aw_bipush (v := 6) dX6_given_1 (by decide) ?_
      refine aw_icmp_neN k 6 16 dX6_given_3 (by decide) rfl rfl (by omega) (by omega) (fun c1 => ?_) (fun c1 => absurd c1 c6)
      refine aw_iload_n dX6_given_16 0 rfl ?_
      refine aw_bipush (v := 7) dX6_given_17 (by decide) ?_
      refine aw_icmp_neN k 7 34 dX6_given_19 (by decide) rfl rfl (by omega) (by omega) (fun c2 => ?_) (fun c2 => absurd c2 c7)
      refine aw_lload_n dX6_given_34 1 rfl ?_
      refine aw_lret dX6_given_35 rfl (Nat.zero_le _) (Nat.zero_le _) ?_
      exact ⟨rfl, rfl⟩
theorem sp_X0_widened {d : Nat} (hd : 4 ≤ d) {M : xM} (a b : Nat) (ha : a < 8) (hb : b < 8) (v : Int64) (hv6 : a = 6 → okF 6 v) : Sp (fX0_widened d) [.int (nI a), .int (nI b), .long v] M (dt (some (.long (wid a b v))) M) := by
  refine Sp.of pn_X0 (Nat.le_of_ble_eq_true rfl) (fun h => Bool.noConfusion h) ?_
  unfold wid
  by_cases c1 : a = b ∨ b ≤ 5
  · rw [if_pos c1]
    by_cases c2 : a = b
    · refine aw_iload_n dX0_widened_0 0 rfl ?_
      refine aw_iload_n dX0_widened_1 1 rfl ?_
      refine aw_icmp_eqN a b 10 dX0_widened_2 (by decide) rfl rfl (by omega) (by omega) (fun c1 => ?_) (fun c1 => absurd c2 c1)
      refine aw_lload_n dX0_widened_10 2 rfl ?_
      refine aw_lret dX0_widened_11 rfl (Nat.zero_le _) (Nat.zero_le _) ?_
      exact ⟨rfl, rfl⟩
    · refine aw_iload_n dX0_widened_0 0 rfl ?_
      refine aw_iload_n dX0_widened_1 1 rfl ?_
      refine aw_icmp_eqN a b 10 dX0_widened_2 (by decide) rfl rfl (by omega) (by omega) (fun c1 => absurd c1 c2) (fun c1 => ?_)
      refine aw_iload_n dX0_widened_5 1 rfl ?_
      refine aw_iconst (v := 5) dX0_widened_6 (by decide) ?_
      refine aw_icmp_gtN b 5 12 dX0_widened_7 (by decide) rfl rfl (by omega) (by omega) (fun c2 => absurd c2 (by omega)) (fun c2 => ?_)
      refine aw_lload_n dX0_widened_10 2 rfl ?_
      refine aw_lret dX0_widened_11 rfl (Nat.zero_le _) (Nat.zero_le _) ?_
      exact ⟨rfl, rfl⟩
  · rw [if_neg c1]
    by_cases c6 : a = 6
    · rw [if_pos c6]
      have hv := hv6 c6
      have hfv := (unf_s hv).2.2
      subst c6
      refine aw_eqL (show _ = [(0, .int (nI 6)), (1, .int (nI b)), (2, .long (fb 6 (unf v)))] by rw [← hfv]; rfl) ?_
      refine aw_iload_n dX0_widened_0 0 rfl ?_
      refine aw_iload_n dX0_widened_1 1 rfl ?_
      refine aw_icmp_eqN 6 b 10 dX0_widened_2 (by decide) rfl rfl (by omega) (by omega) (fun c1 => absurd c1 (by omega)) (fun c1 => ?_)
      refine aw_iload_n dX0_widened_5 1 rfl ?_
      refine aw_iconst (v := 5) dX0_widened_6 (by decide) ?_
      refine aw_icmp_gtN b 5 12 dX0_widened_7 (by decide) rfl rfl (by omega) (by omega) (fun c2 => ?_) (fun c2 => absurd (by omega) c2)
      refine aw_iload_n dX0_widened_12 0 rfl ?_
      refine aw_bipush (v := 6) dX0_widened_13 (by decide) ?_
      refine aw_icmp_neN 6 6 30 dX0_widened_15 (by decide) rfl rfl (by omega) (by omega) (fun c3 => absurd rfl c3) (fun c3 => ?_)
      refine aw_bipush (v := 7) dX0_widened_18 (by decide) ?_
      refine aw_bipush (v := 6) dX0_widened_20 (by decide) ?_
      refine aw_lload_n dX0_widened_22 2 rfl ?_
      refine aw_callSd [.int 6, .long (fb 6 (unf v))] [.int 7] (sp_X0_real (d := d - 1) (by omega) 6 (by decide) (unf v) (unf_s hv).1) dX0_widened_23 ml_X0_33 sm_X0_real rfl (dl1 (d := d) (by omega)) rfl rfl (Nat.le_of_ble_eq_true rfl) rfl rfl (Nat.zero_le _) (Nat.zero_le _) ?_
      refine aw_callSl [.int 7, .double (unf v)] [] (sp_X0_bitsOf (d := d - 1) (by omega) 7 (by decide) (unf v) (isD_67 (unf_s hv).1)) dX0_widened_26 ml_X0_27 sm_X0_bitsOf rfl (dl1 (d := d) (by omega)) rfl rfl (Nat.le_of_ble_eq_true rfl) rfl rfl (Nat.zero_le _) (Nat.zero_le _) ?_
      refine aw_lret dX0_widened_29 rfl (Nat.zero_le _) (Nat.zero_le _) ?_
      exact ⟨rfl, rfl⟩
    · rw [if_neg c6]
      by_cases cb : b = 6
      · rw [if_pos cb]
        refine aw_iload_n dX0_widened_0 0 rfl ?_
        refine aw_iload_n dX0_widened_1 1 rfl ?_
        refine aw_icmp_eqN a b 10 dX0_widened_2 (by decide) rfl rfl (by omega) (by omega) (fun c1 => absurd c1 (by omega)) (fun c1 => ?_)
        refine aw_iload_n dX0_widened_5 1 rfl ?_
        refine aw_iconst (v := 5) dX0_widened_6 (by decide) ?_
        refine aw_icmp_gtN b 5 12 dX0_widened_7 (by decide) rfl rfl (by omega) (by omega) (fun c2 => ?_) (fun c2 => absurd (by omega) c2)
        refine aw_iload_n dX0_widened_12 0 rfl ?_
        refine aw_bipush (v := 6) dX0_widened_13 (by decide) ?_
        refine aw_icmp_neN a 6 30 dX0_widened_15 (by decide) rfl rfl (by omega) (by omega) (fun c3 => ?_) (fun c3 => absurd c3 c6)
        refine aw_iload_n dX0_widened_30 1 rfl ?_
        refine aw_bipush (v := 6) dX0_widened_31 (by decide) ?_
        refine aw_icmp_neN b 6 47 dX0_widened_33 (by decide) rfl rfl (by omega) (by omega) (fun c4 => absurd cb c4) (fun c4 => ?_)
        refine aw_bipush (v := 6) dX0_widened_36 (by decide) ?_
        refine aw_lload_n dX0_widened_38 2 rfl ?_
        refine aw_l2f dX0_widened_39 ?_
        refine aw_f2d dX0_widened_40 (wd6 v).2.2 ?_
        refine aw_callSl [.int 6, .double (FP.f2d (FP.l2f v))] [] (sp_X0_bitsOf (d := d - 1) (by omega) 6 (by decide) (FP.f2d (FP.l2f v)) (wd6 v).1) dX0_widened_41 ml_X0_27 sm_X0_bitsOf rfl (dl1 (d := d) (by omega)) rfl rfl (Nat.le_of_ble_eq_true rfl) rfl rfl (Nat.zero_le _) (Nat.zero_le _) ?_
        refine aw_goto 54 dX0_widened_44 (by decide) ?_
        refine aw_lret dX0_widened_54 rfl (Nat.zero_le _) (Nat.zero_le _) ?_
        exact ⟨rfl, rfl⟩
      · rw [if_neg cb]
        refine aw_iload_n dX0_widened_0 0 rfl ?_
        refine aw_iload_n dX0_widened_1 1 rfl ?_
        refine aw_icmp_eqN a b 10 dX0_widened_2 (by decide) rfl rfl (by omega) (by omega) (fun c1 => absurd c1 (by omega)) (fun c1 => ?_)
        refine aw_iload_n dX0_widened_5 1 rfl ?_
        refine aw_iconst (v := 5) dX0_widened_6 (by decide) ?_
        refine aw_icmp_gtN b 5 12 dX0_widened_7 (by decide) rfl rfl (by omega) (by omega) (fun c2 => ?_) (fun c2 => absurd (by omega) c2)
        refine aw_iload_n dX0_widened_12 0 rfl ?_
        refine aw_bipush (v := 6) dX0_widened_13 (by decide) ?_
        refine aw_icmp_neN a 6 30 dX0_widened_15 (by decide) rfl rfl (by omega) (by omega) (fun c3 => ?_) (fun c3 => absurd c3 c6)
        refine aw_iload_n dX0_widened_30 1 rfl ?_
        refine aw_bipush (v := 6) dX0_widened_31 (by decide) ?_
        refine aw_icmp_neN b 6 47 dX0_widened_33 (by decide) rfl rfl (by omega) (by omega) (fun c4 => ?_) (fun c4 => absurd c4 cb)
        refine aw_bipush (v := 7) dX0_widened_47 (by decide) ?_
        refine aw_lload_n dX0_widened_49 2 rfl ?_
        refine aw_l2d dX0_widened_50 ?_
        refine aw_callSl [.int 7, .double (FP.l2d v)] [] (sp_X0_bitsOf (d := d - 1) (by omega) 7 (by decide) (FP.l2d v) (wd7 v).1) dX0_widened_51 ml_X0_27 sm_X0_bitsOf rfl (dl1 (d := d) (by omega)) rfl rfl (Nat.le_of_ble_eq_true rfl) rfl rfl (Nat.zero_le _) (Nat.zero_le _) ?_
        refine aw_lret dX0_widened_54 rfl (Nat.zero_le _) (Nat.zero_le _) ?_
        exact ⟨rfl, rfl⟩
theorem sp_X6_turned {d : Nat} (hd : 2 ≤ d) {M : xM} (a b : Nat) (ha : a < 8) (hb : b < 8) (v : Int64) (hv6 : a = 6 → okF 6 v) : Sp (fX6_turned d) [.int (nI a), .long v, .int (nI b)] M (dt (some (.long (wid a b v))) M) := by
  refine Sp.of pn_X6 (Nat.le_of_ble_eq_true rfl) (fun h => Bool.noConfusion h) ?_
  unfold wid
  by_cases c1 : a = b ∨ b ≤ 5
  · rw [if_pos c1]
    by_cases c2 : a = b
    · refine aw_iload_n dX6_turned_0 0 rfl ?_
      refine aw_iload_n dX6_turned_1 2 rfl ?_
      refine aw_icmp_eqN a b 11 dX6_turned_2 (by decide) rfl rfl (by omega) (by omega) (fun c1 => ?_) (fun c1 => absurd c2 c1)
      refine aw_lload_n dX6_turned_11 1 rfl ?_
      refine aw_lret dX6_turned_12 rfl (Nat.zero_le _) (Nat.zero_le _) ?_
      exact ⟨rfl, rfl⟩
    · refine aw_iload_n dX6_turned_0 0 rfl ?_
      refine aw_iload_n dX6_turned_1 2 rfl ?_
      refine aw_icmp_eqN a b 11 dX6_turned_2 (by decide) rfl rfl (by omega) (by omega) (fun c1 => absurd c1 c2) (fun c1 => ?_)
      refine aw_iload_n dX6_turned_5 2 rfl ?_
      refine aw_bipush (v := 6) dX6_turned_6 (by decide) ?_
      refine aw_icmp_geN b 6 13 dX6_turned_8 (by decide) rfl rfl (by omega) (by omega) (fun c2 => absurd c2 (by omega)) (fun c2 => ?_)
      refine aw_lload_n dX6_turned_11 1 rfl ?_
      refine aw_lret dX6_turned_12 rfl (Nat.zero_le _) (Nat.zero_le _) ?_
      exact ⟨rfl, rfl⟩
  · rw [if_neg c1]
    by_cases c6 : a = 6
    · rw [if_pos c6]
      have hv := hv6 c6
      have hfv := (unf_s hv).2.2
      subst c6
      refine aw_eqL (show _ = [(0, .int (nI 6)), (1, .long (fb 6 (unf v))), (3, .int (nI b))] by rw [← hfv]; rfl) ?_
      refine aw_iload_n dX6_turned_0 0 rfl ?_
      refine aw_iload_n dX6_turned_1 2 rfl ?_
      refine aw_icmp_eqN 6 b 11 dX6_turned_2 (by decide) rfl rfl (by omega) (by omega) (fun c1 => absurd c1 (by omega)) (fun c1 => ?_)
      refine aw_iload_n dX6_turned_5 2 rfl ?_
      refine aw_bipush (v := 6) dX6_turned_6 (by decide) ?_
      refine aw_icmp_geN b 6 13 dX6_turned_8 (by decide) rfl rfl (by omega) (by omega) (fun c2 => ?_) (fun c2 => absurd (by omega) c2)
      refine aw_iload_n dX6_turned_13 0 rfl ?_
      refine aw_bipush (v := 6) dX6_turned_14 (by decide) ?_
      refine aw_icmp_neN 6 6 29 dX6_turned_16 (by decide) rfl rfl (by omega) (by omega) (fun c3 => absurd rfl c3) (fun c3 => ?_)
      refine aw_bipush (v := 6) dX6_turned_19 (by decide) ?_
      refine aw_lload_n dX6_turned_21 1 rfl ?_
      refine aw_callSd [.int 6, .long (fb 6 (unf v))] [] (sp_X6_value (d := d - 1) (by omega) 6 (by decide) (unf v) (unf_s hv).1) dX6_turned_22 ml_X6_115 sm_X6_value rfl (dl1 (d := d) (by omega)) rfl rfl (Nat.le_of_ble_eq_true rfl) rfl rfl (Nat.zero_le _) (Nat.zero_le _) ?_
      refine aw_callSl [.double (unf v)] [] (sp_X6_doubleBits (d := d - 1) (by omega) (unf v) (isD_67 (unf_s hv).1)) dX6_turned_25 ml_X6_112 sm_X6_doubleBits rfl (dl1 (d := d) (by omega)) rfl rfl (Nat.le_of_ble_eq_true rfl) rfl rfl (Nat.zero_le _) (Nat.zero_le _) ?_
      refine aw_lret dX6_turned_28 rfl (Nat.zero_le _) (Nat.zero_le _) ?_
      exact ⟨rfl, rfl⟩
    · rw [if_neg c6]
      by_cases cb : b = 6
      · rw [if_pos cb]
        refine aw_iload_n dX6_turned_0 0 rfl ?_
        refine aw_iload_n dX6_turned_1 2 rfl ?_
        refine aw_icmp_eqN a b 11 dX6_turned_2 (by decide) rfl rfl (by omega) (by omega) (fun c1 => absurd c1 (by omega)) (fun c1 => ?_)
        refine aw_iload_n dX6_turned_5 2 rfl ?_
        refine aw_bipush (v := 6) dX6_turned_6 (by decide) ?_
        refine aw_icmp_geN b 6 13 dX6_turned_8 (by decide) rfl rfl (by omega) (by omega) (fun c2 => ?_) (fun c2 => absurd (by omega) c2)
        refine aw_iload_n dX6_turned_13 0 rfl ?_
        refine aw_bipush (v := 6) dX6_turned_14 (by decide) ?_
        refine aw_icmp_neN a 6 29 dX6_turned_16 (by decide) rfl rfl (by omega) (by omega) (fun c3 => ?_) (fun c3 => absurd c3 c6)
        refine aw_iload_n dX6_turned_29 2 rfl ?_
        refine aw_bipush (v := 6) dX6_turned_30 (by decide) ?_
        refine aw_icmp_neN b 6 44 dX6_turned_32 (by decide) rfl rfl (by omega) (by omega) (fun c4 => absurd cb c4) (fun c4 => ?_)
        refine aw_lload_n dX6_turned_35 1 rfl ?_
        refine aw_l2f dX6_turned_36 ?_
        refine aw_f2d dX6_turned_37 (wd6 v).2.2 ?_
        refine aw_callSl [.double (FP.f2d (FP.l2f v))] [] (sp_X6_floatBits (d := d - 1) (by omega) (FP.f2d (FP.l2f v)) (wd6 v).1) dX6_turned_38 ml_X6_106 sm_X6_floatBits rfl (dl1 (d := d) (by omega)) rfl rfl (Nat.le_of_ble_eq_true rfl) rfl rfl (Nat.zero_le _) (Nat.zero_le _) ?_
        refine aw_goto 49 dX6_turned_41 (by decide) ?_
        refine aw_lret dX6_turned_49 rfl (Nat.zero_le _) (Nat.zero_le _) ?_
        exact ⟨rfl, rfl⟩
      · rw [if_neg cb]
        refine aw_iload_n dX6_turned_0 0 rfl ?_
        refine aw_iload_n dX6_turned_1 2 rfl ?_
        refine aw_icmp_eqN a b 11 dX6_turned_2 (by decide) rfl rfl (by omega) (by omega) (fun c1 => absurd c1 (by omega)) (fun c1 => ?_)
        refine aw_iload_n dX6_turned_5 2 rfl ?_
        refine aw_bipush (v := 6) dX6_turned_6 (by decide) ?_
        refine aw_icmp_geN b 6 13 dX6_turned_8 (by decide) rfl rfl (by omega) (by omega) (fun c2 => ?_) (fun c2 => absurd (by omega) c2)
        refine aw_iload_n dX6_turned_13 0 rfl ?_
        refine aw_bipush (v := 6) dX6_turned_14 (by decide) ?_
        refine aw_icmp_neN a 6 29 dX6_turned_16 (by decide) rfl rfl (by omega) (by omega) (fun c3 => ?_) (fun c3 => absurd c3 c6)
        refine aw_iload_n dX6_turned_29 2 rfl ?_
        refine aw_bipush (v := 6) dX6_turned_30 (by decide) ?_
        refine aw_icmp_neN b 6 44 dX6_turned_32 (by decide) rfl rfl (by omega) (by omega) (fun c4 => ?_) (fun c4 => absurd c4 cb)
        refine aw_lload_n dX6_turned_44 1 rfl ?_
        refine aw_l2d dX6_turned_45 ?_
        refine aw_callSl [.double (FP.l2d v)] [] (sp_X6_doubleBits (d := d - 1) (by omega) (FP.l2d v) (wd7 v).1) dX6_turned_46 ml_X6_112 sm_X6_doubleBits rfl (dl1 (d := d) (by omega)) rfl rfl (Nat.le_of_ble_eq_true rfl) rfl rfl (Nat.zero_le _) (Nat.zero_le _) ?_
        refine aw_lret dX6_turned_49 rfl (Nat.zero_le _) (Nat.zero_le _) ?_
        exact ⟨rfl, rfl⟩
