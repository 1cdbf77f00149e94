-- THE CLASS READS ITEMS
theorem sp_ta {M0 : xM} {so N : Nat} {B : Nat → Nat} {L : Nat} (hS : RdS M0 so N B L) : ∀ g d, 2 * g + 8 ≤ d → ∀ p (R : pR) (A : xM), CS M0 p R A → p < L → 12 ≤ R.1 + g → sX1_isArrayTag (nI (B p)) = true → Sp (fX1_takeArray d) [.ref 8, .int (nI (B p))] A (PR M0 (pArr B L g (B p) p R)) := by
  intro g
  induction g with
  | zero =>
    intro d hd p R A hC hpl hg htag
    refine Sp.of pn_X1 (Nat.le_of_ble_eq_true rfl) (fun h => Bool.noConfusion h) ?_
    have hL1 := hS.2.2.2.1
    have hL2 := hS.2.2.2.2.1
    have hD := hC.1.D hS
    have hu12 := hC.2.2.2.2.1
    obtain ⟨t, et⟩ : ∃ t, t = R.1 := ⟨_, rfl⟩
    have hu1 : mI A 8 1 = nI t := by rw [et]; exact hC.2.1
    refine aw_aload_n dX1_takeArray_0 0 rfl ?_
    refine aw_getI dX1_takeArray_1 fl_X1_17 (hD.1.s 8 (by decide)) (hD.1.n 8 (by decide)) ?_
    refine aw_topE hu1 ?_
    refine aw_bipush (v := 12) dX1_takeArray_4 (by decide) ?_
    refine aw_icmp_ltN t 12 18 dX1_takeArray_6 (by decide) rfl rfl (by omega) (by omega) (fun c1 => absurd c1 (by omega)) (fun c1 => ?_)
    refine aw_aload_n dX1_takeArray_9 0 rfl ?_
    refine aw_aload_n dX1_takeArray_10 0 rfl ?_
    refine aw_getI dX1_takeArray_11 fl_X1_21 (hD.1.s 8 (by decide)) (hD.1.n 8 (by decide)) ?_
    refine aw_topE hC.2.2.1 ?_
    refine aw_callVi [.int (nI p)] [] (sp_X1_failAt (d := d - 1) (nI p) hD.1) dX1_takeArray_14 ml_X1_49 im_X1_failAt (hD.1.s 8 (by decide)) (hD.1.n 8 (by decide)) rfl rfl (dl1 (d := d) (by omega)) rfl rfl (Nat.le_of_ble_eq_true rfl) rfl rfl (Nat.zero_le _) (Nat.zero_le _) ?_
    refine aw_zret dX1_takeArray_17 rfl rfl (Nat.zero_le _) (Nat.zero_le _) ?_
    exact ⟨rfl, hC.1.i 3 (nI p), mI_stI_v _ _ _ _⟩
  | succ g ih =>
    intro d hd p R A hC hpl hg htag
    refine Sp.of pn_X1 (Nat.le_of_ble_eq_true rfl) (fun h => Bool.noConfusion h) ?_
    have hL1 := hS.2.2.2.1
    have hL2 := hS.2.2.2.2.1
    have hD := hC.1.D hS
    have hu12 := hC.2.2.2.2.1
    unfold pArr
    obtain ⟨t, et⟩ : ∃ t, t = R.1 := ⟨_, rfl⟩
    have hu1 : mI A 8 1 = nI t := by rw [et]; exact hC.2.1
    rw [← et]
    by_cases hu : t < 12
    · rw [if_pos hu]
      have ht12 := hu
      have hb := (hD.2.2.2.2.2.2.2 p hpl).2
      obtain ⟨tg1, tg2, tg3, tg4⟩ := tg_ok (B p) hb htag
      by_cases cl2 : p + 1 < L
      · have hb2 := (hD.2.2.2.2.2.2.2 (p + 1) cl2).2
        by_cases hz12 : B (p + 1) ≤ 12
        · rw [if_pos ⟨cl2, hz12⟩]
          have hC3 := hC.new (k := B p % 16) (z := B (p + 1)) (by omega) tg2 hz12 (p + 1 + 1)
          rw [← et] at hC3
          have hD3 := hC3.1.D hS
          have z1 : rK (rNew R (B p % 16) (B (p + 1))) t = B p % 16 := by rw [et]; exact if_pos rfl
          have z2 : rZ (rNew R (B p % 16) (B (p + 1))) t = B (p + 1) := by rw [et]; exact if_pos rfl
          have z3 : t < (rNew R (B p % 16) (B (p + 1))).1 := by show t < R.1 + 1; omega
          rcases tg1 with c | c | c
          · rw [if_neg (by omega), if_neg (by omega)]
            have f0 : mI (beaM (stI (stI (stI A 8 1 (nI (t + 1))) 8 2 (nI (p + 1))) 8 2 (nI ((p + 1) + 1))) (10 + 3 * t) (nI (B p % 16)) (B (p + 1))) (10 + 3 * t) 0 = nI (B p % 16) := by
              have q := (hC3.2.2.2.2.2 t z3).2.2.1
              rw [z1] at q
              exact q
            by_cases c8 : B p % 16 < 8
            · rw [if_pos c8]
              have hpm : sX2_isPrimitive (beaM (stI (stI (stI A 8 1 (nI (t + 1))) 8 2 (nI (p + 1))) 8 2 (nI ((p + 1) + 1))) (10 + 3 * t) (nI (B p % 16)) (B (p + 1))) (10 + 3 * t) = true := by
                unfold sX2_isPrimitive
                rw [f0, isk14 tg2]
                exact decide_eq_true c8
              have hq := sp_tF (d := d - 1) (by omega) hS c8 hC3 (by omega) z3 z1 z2
              refine aw_aload_n dX1_takeArray_0 0 rfl ?_
              refine aw_getI dX1_takeArray_1 fl_X1_17 (hD.1.s 8 (by decide)) (hD.1.n 8 (by decide)) ?_
              refine aw_topE hu1 ?_
              refine aw_bipush (v := 12) dX1_takeArray_4 (by decide) ?_
              refine aw_icmp_ltN t 12 18 dX1_takeArray_6 (by decide) rfl rfl (by omega) (by omega) (fun c1 => ?_) (fun c1 => absurd (by omega) c1)
              refine aw_aload_n dX1_takeArray_18 0 rfl ?_
              refine aw_getR (b := 9) dX1_takeArray_19 fl_X1_11 rfl (hD.1.s 8 (by decide)) (hD.1.n 8 (by decide)) (hD.1.r 8 0 (by decide) (by decide)) ?_
              refine aw_aload_n dX1_takeArray_22 0 rfl ?_
              refine aw_getI dX1_takeArray_23 fl_X1_17 (hD.1.s 8 (by decide)) (hD.1.n 8 (by decide)) ?_
              refine aw_topE hu1 ?_
              refine aw_aaldN t (10 + 3 * t) dX1_takeArray_26 (hD.1.s 9 (by decide)) (hD.1.n 9 (by decide)) rfl (by omega) (by first | decide | omega) (hD.1.rslot ht12) ?_
              refine aw_astore_n [(2, .ref (10 + 3 * t)), (0, .ref 8), (1, .int (nI (B p)))] dX1_takeArray_27 (Nat.le_of_ble_eq_true rfl) rfl ?_
              refine aw_aload_n dX1_takeArray_28 1 rfl ?_
              refine aw_dup dX1_takeArray_29 rfl ?_
              refine aw_getI dX1_takeArray_30 fl_X1_17 (hD.1.s 8 (by decide)) (hD.1.n 8 (by decide)) ?_
              refine aw_topE hu1 ?_
              refine aw_iconst (v := 1) dX1_takeArray_33 (by decide) ?_
              refine aw_iaddN t 1 dX1_takeArray_34 rfl rfl ?_
              refine aw_putI dX1_takeArray_35 fl_X1_17 (Or.inl rfl) (hD.1.s 8 (by decide)) (hD.1.n 8 (by decide)) ?_
              refine aw_aload_n dX1_takeArray_38 1 rfl ?_
              refine aw_dup dX1_takeArray_39 rfl ?_
              refine aw_getI dX1_takeArray_40 fl_X1_21 ((hD.i 1 (nI (t + 1))).1.s 8 (by decide)) ((hD.i 1 (nI (t + 1))).1.n 8 (by decide)) ?_
              refine aw_topE ((mI_stI_o _ _ _ _ (by decide)).trans hC.2.2.1) ?_
              refine aw_iconst (v := 1) dX1_takeArray_43 (by decide) ?_
              refine aw_iaddN p 1 dX1_takeArray_44 rfl rfl ?_
              refine aw_putI dX1_takeArray_45 fl_X1_21 (Or.inl rfl) ((hD.i 1 (nI (t + 1))).1.s 8 (by decide)) ((hD.i 1 (nI (t + 1))).1.n 8 (by decide)) ?_
              refine aw_aload_n dX1_takeArray_48 1 rfl ?_
              refine aw_getR (b := so) dX1_takeArray_49 fl_X1_31 rfl (((hD.i 1 (nI (t + 1))).i 2 (nI (p + 1))).1.s 8 (by decide)) (((hD.i 1 (nI (t + 1))).i 2 (nI (p + 1))).1.n 8 (by decide)) ((hD.i 1 (nI (t + 1))).i 2 (nI (p + 1))).2.1 ?_
              refine aw_aload_n dX1_takeArray_52 1 rfl ?_
              refine aw_getI dX1_takeArray_53 fl_X1_21 (((hD.i 1 (nI (t + 1))).i 2 (nI (p + 1))).1.s 8 (by decide)) (((hD.i 1 (nI (t + 1))).i 2 (nI (p + 1))).1.n 8 (by decide)) ?_
              refine aw_topE (mI_stI_v _ _ _ _) ?_
              refine aw_callVi [.int (nI (p + 1))] [] (sp_at (d := d - 1) ((hD.i 1 (nI (t + 1))).i 2 (nI (p + 1))) cl2) dX1_takeArray_56 ml_X1_36 im_X3_at ((hD.i 1 (nI (t + 1))).i 2 (nI (p + 1))).2.2.1.1 ((hD.i 1 (nI (t + 1))).i 2 (nI (p + 1))).2.2.1.n0 rfl rfl (dl1 (d := d) (by omega)) rfl rfl (Nat.le_of_ble_eq_true rfl) rfl rfl (Nat.zero_le _) (Nat.zero_le _) ?_
              refine aw_istore_n [(3, .int (nI (B (p + 1)))), (2, .ref (10 + 3 * t)), (0, .ref 8), (1, .int (nI (B p)))] dX1_takeArray_59 (Nat.le_of_ble_eq_true rfl) rfl ?_
              refine aw_iload_n dX1_takeArray_60 0 rfl ?_
              refine aw_if_lt 70 dX1_takeArray_61 (by decide) (fun c2 => absurd c2 (nI_nn (by omega))) (fun c2 => ?_)
              refine aw_iload_n dX1_takeArray_64 0 rfl ?_
              refine aw_bipush (v := 12) dX1_takeArray_65 (by decide) ?_
              refine aw_icmp_leN (B (p + 1)) 12 79 dX1_takeArray_67 (by decide) rfl rfl (by omega) (by omega) (fun c3 => ?_) (fun c3 => absurd (by omega) c3)
              refine aw_aload_n dX1_takeArray_79 2 rfl ?_
              refine aw_dup dX1_takeArray_80 rfl ?_
              refine aw_getI dX1_takeArray_81 fl_X1_21 (((hD.i 1 (nI (t + 1))).i 2 (nI (p + 1))).1.s 8 (by decide)) (((hD.i 1 (nI (t + 1))).i 2 (nI (p + 1))).1.n 8 (by decide)) ?_
              refine aw_topE (mI_stI_v _ _ _ _) ?_
              refine aw_iconst (v := 1) dX1_takeArray_84 (by decide) ?_
              refine aw_iaddN (p + 1) 1 dX1_takeArray_85 rfl rfl ?_
              refine aw_putI dX1_takeArray_86 fl_X1_21 (Or.inl rfl) (((hD.i 1 (nI (t + 1))).i 2 (nI (p + 1))).1.s 8 (by decide)) (((hD.i 1 (nI (t + 1))).i 2 (nI (p + 1))).1.n 8 (by decide)) ?_
              refine aw_aload_n dX1_takeArray_89 1 rfl ?_
              refine aw_iload_n dX1_takeArray_90 3 rfl ?_
              refine aw_bipush (v := 15) dX1_takeArray_91 (by decide) ?_
              refine aw_iand dX1_takeArray_93 ?_
              refine aw_topE and15 ?_
              refine aw_iload_n dX1_takeArray_94 0 rfl ?_
              refine aw_callVv [.int (nI (B p % 16)), .int (nI (B (p + 1)))] [] (sp_X2_beArray (d := d - 1) (by omega) (nI (B p % 16)) (B (p + 1)) ((((hD.i 1 (nI (t + 1))).i 2 (nI (p + 1))).i 2 (nI ((p + 1) + 1))).1.rrow (t := t) ht12) hz12) dX1_takeArray_95 ml_X1_63 im_X2_beArray ((((hD.i 1 (nI (t + 1))).i 2 (nI (p + 1))).i 2 (nI ((p + 1) + 1))).1.rrow (t := t) ht12).1 ((((hD.i 1 (nI (t + 1))).i 2 (nI (p + 1))).i 2 (nI ((p + 1) + 1))).1.rrow (t := t) ht12).n0 rfl rfl (dl1 (d := d) (by omega)) rfl rfl (Nat.le_of_ble_eq_true rfl) rfl rfl (Nat.zero_le _) (Nat.zero_le _) ?_
              refine aw_iload_n dX1_takeArray_98 3 rfl ?_
              refine aw_iconst (v := 4) dX1_takeArray_99 (by decide) ?_
              refine aw_ishr dX1_takeArray_100 ?_
              refine aw_iconst (v := 1) dX1_takeArray_101 (by decide) ?_
              refine aw_isub dX1_takeArray_102 ?_
              refine aw_topE (tg_sw2 hb (c := 0) c) ?_
              refine aw_lookup (off := 37) 140 dX1_takeArray_103 (by decide) (by decide) (by decide) ?_
              refine aw_aload_n dX1_takeArray_140 1 rfl ?_
              refine aw_callVi [] [] (sp_X2_isPrimitive (d := d - 1) (by omega) (hD3.1.rrow (t := t) ht12)) dX1_takeArray_141 ml_X1_74 im_X2_isPrimitive (hD3.1.rrow (t := t) ht12).1 (hD3.1.rrow (t := t) ht12).n0 rfl rfl (dl1 (d := d) (by omega)) rfl rfl (Nat.le_of_ble_eq_true rfl) rfl rfl (Nat.zero_le _) (Nat.zero_le _) ?_
              refine aw_if_eq 155 dX1_takeArray_144 (by decide) (fun c1 => absurd c1 (bz_n0.mpr hpm)) (fun c1 => ?_)
              refine aw_aload_n dX1_takeArray_147 2 rfl ?_
              refine aw_aload_n dX1_takeArray_148 1 rfl ?_
              refine aw_callVx [.ref (10 + 3 * t)] [] hq dX1_takeArray_149 ml_X1_77 im_X1_takeFlat (hD3.1.s 8 (by decide)) (hD3.1.n 8 (by decide)) rfl rfl (dl1 (d := d) (by omega)) rfl rfl (Nat.le_of_ble_eq_true rfl) rfl rfl (Nat.zero_le _) (Nat.zero_le _) (fun r A1 hA1 => ?_)
              obtain ⟨b1, eb1⟩ := PR_b hA1
              rw [eb1] at hA1 ⊢
              refine aw_cons ?_
              refine aw_goto 160 dX1_takeArray_152 (by decide) ?_
              refine aw_zret dX1_takeArray_160 rfl narrow_bz (Nat.zero_le _) (Nat.zero_le _) ?_
              exact hA1
            · rw [if_neg c8]
              have hpm : sX2_isPrimitive (beaM (stI (stI (stI A 8 1 (nI (t + 1))) 8 2 (nI (p + 1))) 8 2 (nI ((p + 1) + 1))) (10 + 3 * t) (nI (B p % 16)) (B (p + 1))) (10 + 3 * t) = false := by
                unfold sX2_isPrimitive
                rw [f0, isk14 tg2]
                exact decide_eq_false c8
              have hq := sp_tO (d := d - 1) (g := g) (F := pArr B L g) (by omega) hS (by omega) tg2 (pArr_in g) (fun p R A a b c e => ih (d - 1 - 1) (by omega) p R A a b c e) hC3 (by omega) z3 z1 z2 (by show 12 ≤ R.1 + 1 + g; omega)
              refine aw_aload_n dX1_takeArray_0 0 rfl ?_
              refine aw_getI dX1_takeArray_1 fl_X1_17 (hD.1.s 8 (by decide)) (hD.1.n 8 (by decide)) ?_
              refine aw_topE hu1 ?_
              refine aw_bipush (v := 12) dX1_takeArray_4 (by decide) ?_
              refine aw_icmp_ltN t 12 18 dX1_takeArray_6 (by decide) rfl rfl (by omega) (by omega) (fun c1 => ?_) (fun c1 => absurd (by omega) c1)
              refine aw_aload_n dX1_takeArray_18 0 rfl ?_
              refine aw_getR (b := 9) dX1_takeArray_19 fl_X1_11 rfl (hD.1.s 8 (by decide)) (hD.1.n 8 (by decide)) (hD.1.r 8 0 (by decide) (by decide)) ?_
              refine aw_aload_n dX1_takeArray_22 0 rfl ?_
              refine aw_getI dX1_takeArray_23 fl_X1_17 (hD.1.s 8 (by decide)) (hD.1.n 8 (by decide)) ?_
              refine aw_topE hu1 ?_
              refine aw_aaldN t (10 + 3 * t) dX1_takeArray_26 (hD.1.s 9 (by decide)) (hD.1.n 9 (by decide)) rfl (by omega) (by first | decide | omega) (hD.1.rslot ht12) ?_
              refine aw_astore_n [(2, .ref (10 + 3 * t)), (0, .ref 8), (1, .int (nI (B p)))] dX1_takeArray_27 (Nat.le_of_ble_eq_true rfl) rfl ?_
              refine aw_aload_n dX1_takeArray_28 1 rfl ?_
              refine aw_dup dX1_takeArray_29 rfl ?_
              refine aw_getI dX1_takeArray_30 fl_X1_17 (hD.1.s 8 (by decide)) (hD.1.n 8 (by decide)) ?_
              refine aw_topE hu1 ?_
              refine aw_iconst (v := 1) dX1_takeArray_33 (by decide) ?_
              refine aw_iaddN t 1 dX1_takeArray_34 rfl rfl ?_
              refine aw_putI dX1_takeArray_35 fl_X1_17 (Or.inl rfl) (hD.1.s 8 (by decide)) (hD.1.n 8 (by decide)) ?_
              refine aw_aload_n dX1_takeArray_38 1 rfl ?_
              refine aw_dup dX1_takeArray_39 rfl ?_
              refine aw_getI dX1_takeArray_40 fl_X1_21 ((hD.i 1 (nI (t + 1))).1.s 8 (by decide)) ((hD.i 1 (nI (t + 1))).1.n 8 (by decide)) ?_
              refine aw_topE ((mI_stI_o _ _ _ _ (by decide)).trans hC.2.2.1) ?_
              refine aw_iconst (v := 1) dX1_takeArray_43 (by decide) ?_
              refine aw_iaddN p 1 dX1_takeArray_44 rfl rfl ?_
              refine aw_putI dX1_takeArray_45 fl_X1_21 (Or.inl rfl) ((hD.i 1 (nI (t + 1))).1.s 8 (by decide)) ((hD.i 1 (nI (t + 1))).1.n 8 (by decide)) ?_
              refine aw_aload_n dX1_takeArray_48 1 rfl ?_
              refine aw_getR (b := so) dX1_takeArray_49 fl_X1_31 rfl (((hD.i 1 (nI (t + 1))).i 2 (nI (p + 1))).1.s 8 (by decide)) (((hD.i 1 (nI (t + 1))).i 2 (nI (p + 1))).1.n 8 (by decide)) ((hD.i 1 (nI (t + 1))).i 2 (nI (p + 1))).2.1 ?_
              refine aw_aload_n dX1_takeArray_52 1 rfl ?_
              refine aw_getI dX1_takeArray_53 fl_X1_21 (((hD.i 1 (nI (t + 1))).i 2 (nI (p + 1))).1.s 8 (by decide)) (((hD.i 1 (nI (t + 1))).i 2 (nI (p + 1))).1.n 8 (by decide)) ?_
              refine aw_topE (mI_stI_v _ _ _ _) ?_
              refine aw_callVi [.int (nI (p + 1))] [] (sp_at (d := d - 1) ((hD.i 1 (nI (t + 1))).i 2 (nI (p + 1))) cl2) dX1_takeArray_56 ml_X1_36 im_X3_at ((hD.i 1 (nI (t + 1))).i 2 (nI (p + 1))).2.2.1.1 ((hD.i 1 (nI (t + 1))).i 2 (nI (p + 1))).2.2.1.n0 rfl rfl (dl1 (d := d) (by omega)) rfl rfl (Nat.le_of_ble_eq_true rfl) rfl rfl (Nat.zero_le _) (Nat.zero_le _) ?_
              refine aw_istore_n [(3, .int (nI (B (p + 1)))), (2, .ref (10 + 3 * t)), (0, .ref 8), (1, .int (nI (B p)))] dX1_takeArray_59 (Nat.le_of_ble_eq_true rfl) rfl ?_
              refine aw_iload_n dX1_takeArray_60 0 rfl ?_
              refine aw_if_lt 70 dX1_takeArray_61 (by decide) (fun c2 => absurd c2 (nI_nn (by omega))) (fun c2 => ?_)
              refine aw_iload_n dX1_takeArray_64 0 rfl ?_
              refine aw_bipush (v := 12) dX1_takeArray_65 (by decide) ?_
              refine aw_icmp_leN (B (p + 1)) 12 79 dX1_takeArray_67 (by decide) rfl rfl (by omega) (by omega) (fun c3 => ?_) (fun c3 => absurd (by omega) c3)
              refine aw_aload_n dX1_takeArray_79 2 rfl ?_
              refine aw_dup dX1_takeArray_80 rfl ?_
              refine aw_getI dX1_takeArray_81 fl_X1_21 (((hD.i 1 (nI (t + 1))).i 2 (nI (p + 1))).1.s 8 (by decide)) (((hD.i 1 (nI (t + 1))).i 2 (nI (p + 1))).1.n 8 (by decide)) ?_
              refine aw_topE (mI_stI_v _ _ _ _) ?_
              refine aw_iconst (v := 1) dX1_takeArray_84 (by decide) ?_
              refine aw_iaddN (p + 1) 1 dX1_takeArray_85 rfl rfl ?_
              refine aw_putI dX1_takeArray_86 fl_X1_21 (Or.inl rfl) (((hD.i 1 (nI (t + 1))).i 2 (nI (p + 1))).1.s 8 (by decide)) (((hD.i 1 (nI (t + 1))).i 2 (nI (p + 1))).1.n 8 (by decide)) ?_
              refine aw_aload_n dX1_takeArray_89 1 rfl ?_
              refine aw_iload_n dX1_takeArray_90 3 rfl ?_
              refine aw_bipush (v := 15) dX1_takeArray_91 (by decide) ?_
              refine aw_iand dX1_takeArray_93 ?_
              refine aw_topE and15 ?_
              refine aw_iload_n dX1_takeArray_94 0 rfl ?_
              refine aw_callVv [.int (nI (B p % 16)), .int (nI (B (p + 1)))] [] (sp_X2_beArray (d := d - 1) (by omega) (nI (B p % 16)) (B (p + 1)) ((((hD.i 1 (nI (t + 1))).i 2 (nI (p + 1))).i 2 (nI ((p + 1) + 1))).1.rrow (t := t) ht12) hz12) dX1_takeArray_95 ml_X1_63 im_X2_beArray ((((hD.i 1 (nI (t + 1))).i 2 (nI (p + 1))).i 2 (nI ((p + 1) + 1))).1.rrow (t := t) ht12).1 ((((hD.i 1 (nI (t + 1))).i 2 (nI (p + 1))).i 2 (nI ((p + 1) + 1))).1.rrow (t := t) ht12).n0 rfl rfl (dl1 (d := d) (by omega)) rfl rfl (Nat.le_of_ble_eq_true rfl) rfl rfl (Nat.zero_le _) (Nat.zero_le _) ?_
              refine aw_iload_n dX1_takeArray_98 3 rfl ?_
              refine aw_iconst (v := 4) dX1_takeArray_99 (by decide) ?_
              refine aw_ishr dX1_takeArray_100 ?_
              refine aw_iconst (v := 1) dX1_takeArray_101 (by decide) ?_
              refine aw_isub dX1_takeArray_102 ?_
              refine aw_topE (tg_sw2 hb (c := 0) c) ?_
              refine aw_lookup (off := 37) 140 dX1_takeArray_103 (by decide) (by decide) (by decide) ?_
              refine aw_aload_n dX1_takeArray_140 1 rfl ?_
              refine aw_callVi [] [] (sp_X2_isPrimitive (d := d - 1) (by omega) (hD3.1.rrow (t := t) ht12)) dX1_takeArray_141 ml_X1_74 im_X2_isPrimitive (hD3.1.rrow (t := t) ht12).1 (hD3.1.rrow (t := t) ht12).n0 rfl rfl (dl1 (d := d) (by omega)) rfl rfl (Nat.le_of_ble_eq_true rfl) rfl rfl (Nat.zero_le _) (Nat.zero_le _) ?_
              refine aw_if_eq 155 dX1_takeArray_144 (by decide) (fun c1 => ?_) (fun c1 => absurd (bz_0.mpr hpm) c1)
              refine aw_aload_n dX1_takeArray_155 2 rfl ?_
              refine aw_aload_n dX1_takeArray_156 1 rfl ?_
              refine aw_callVx [.ref (10 + 3 * t)] [] hq dX1_takeArray_157 ml_X1_80 im_X1_takeObjects (hD3.1.s 8 (by decide)) (hD3.1.n 8 (by decide)) rfl rfl (dl1 (d := d) (by omega)) rfl rfl (Nat.le_of_ble_eq_true rfl) rfl rfl (Nat.zero_le _) (Nat.zero_le _) (fun r A1 hA1 => ?_)
              obtain ⟨b1, eb1⟩ := PR_b hA1
              rw [eb1] at hA1 ⊢
              refine aw_cons ?_
              refine aw_zret dX1_takeArray_160 rfl narrow_bz (Nat.zero_le _) (Nat.zero_le _) ?_
              exact hA1
          · rw [if_pos c]
            have hq := sp_tR (d := d - 1) (by omega) hS (tg3 c) hC3 (by omega) z3 z1 z2
            refine aw_aload_n dX1_takeArray_0 0 rfl ?_
            refine aw_getI dX1_takeArray_1 fl_X1_17 (hD.1.s 8 (by decide)) (hD.1.n 8 (by decide)) ?_
            refine aw_topE hu1 ?_
            refine aw_bipush (v := 12) dX1_takeArray_4 (by decide) ?_
            refine aw_icmp_ltN t 12 18 dX1_takeArray_6 (by decide) rfl rfl (by omega) (by omega) (fun c1 => ?_) (fun c1 => absurd (by omega) c1)
            refine aw_aload_n dX1_takeArray_18 0 rfl ?_
            refine aw_getR (b := 9) dX1_takeArray_19 fl_X1_11 rfl (hD.1.s 8 (by decide)) (hD.1.n 8 (by decide)) (hD.1.r 8 0 (by decide) (by decide)) ?_
            refine aw_aload_n dX1_takeArray_22 0 rfl ?_
            refine aw_getI dX1_takeArray_23 fl_X1_17 (hD.1.s 8 (by decide)) (hD.1.n 8 (by decide)) ?_
            refine aw_topE hu1 ?_
            refine aw_aaldN t (10 + 3 * t) dX1_takeArray_26 (hD.1.s 9 (by decide)) (hD.1.n 9 (by decide)) rfl (by omega) (by first | decide | omega) (hD.1.rslot ht12) ?_
            refine aw_astore_n [(2, .ref (10 + 3 * t)), (0, .ref 8), (1, .int (nI (B p)))] dX1_takeArray_27 (Nat.le_of_ble_eq_true rfl) rfl ?_
            refine aw_aload_n dX1_takeArray_28 1 rfl ?_
            refine aw_dup dX1_takeArray_29 rfl ?_
            refine aw_getI dX1_takeArray_30 fl_X1_17 (hD.1.s 8 (by decide)) (hD.1.n 8 (by decide)) ?_
            refine aw_topE hu1 ?_
            refine aw_iconst (v := 1) dX1_takeArray_33 (by decide) ?_
            refine aw_iaddN t 1 dX1_takeArray_34 rfl rfl ?_
            refine aw_putI dX1_takeArray_35 fl_X1_17 (Or.inl rfl) (hD.1.s 8 (by decide)) (hD.1.n 8 (by decide)) ?_
            refine aw_aload_n dX1_takeArray_38 1 rfl ?_
            refine aw_dup dX1_takeArray_39 rfl ?_
            refine aw_getI dX1_takeArray_40 fl_X1_21 ((hD.i 1 (nI (t + 1))).1.s 8 (by decide)) ((hD.i 1 (nI (t + 1))).1.n 8 (by decide)) ?_
            refine aw_topE ((mI_stI_o _ _ _ _ (by decide)).trans hC.2.2.1) ?_
            refine aw_iconst (v := 1) dX1_takeArray_43 (by decide) ?_
            refine aw_iaddN p 1 dX1_takeArray_44 rfl rfl ?_
            refine aw_putI dX1_takeArray_45 fl_X1_21 (Or.inl rfl) ((hD.i 1 (nI (t + 1))).1.s 8 (by decide)) ((hD.i 1 (nI (t + 1))).1.n 8 (by decide)) ?_
            refine aw_aload_n dX1_takeArray_48 1 rfl ?_
            refine aw_getR (b := so) dX1_takeArray_49 fl_X1_31 rfl (((hD.i 1 (nI (t + 1))).i 2 (nI (p + 1))).1.s 8 (by decide)) (((hD.i 1 (nI (t + 1))).i 2 (nI (p + 1))).1.n 8 (by decide)) ((hD.i 1 (nI (t + 1))).i 2 (nI (p + 1))).2.1 ?_
            refine aw_aload_n dX1_takeArray_52 1 rfl ?_
            refine aw_getI dX1_takeArray_53 fl_X1_21 (((hD.i 1 (nI (t + 1))).i 2 (nI (p + 1))).1.s 8 (by decide)) (((hD.i 1 (nI (t + 1))).i 2 (nI (p + 1))).1.n 8 (by decide)) ?_
            refine aw_topE (mI_stI_v _ _ _ _) ?_
            refine aw_callVi [.int (nI (p + 1))] [] (sp_at (d := d - 1) ((hD.i 1 (nI (t + 1))).i 2 (nI (p + 1))) cl2) dX1_takeArray_56 ml_X1_36 im_X3_at ((hD.i 1 (nI (t + 1))).i 2 (nI (p + 1))).2.2.1.1 ((hD.i 1 (nI (t + 1))).i 2 (nI (p + 1))).2.2.1.n0 rfl rfl (dl1 (d := d) (by omega)) rfl rfl (Nat.le_of_ble_eq_true rfl) rfl rfl (Nat.zero_le _) (Nat.zero_le _) ?_
            refine aw_istore_n [(3, .int (nI (B (p + 1)))), (2, .ref (10 + 3 * t)), (0, .ref 8), (1, .int (nI (B p)))] dX1_takeArray_59 (Nat.le_of_ble_eq_true rfl) rfl ?_
            refine aw_iload_n dX1_takeArray_60 0 rfl ?_
            refine aw_if_lt 70 dX1_takeArray_61 (by decide) (fun c2 => absurd c2 (nI_nn (by omega))) (fun c2 => ?_)
            refine aw_iload_n dX1_takeArray_64 0 rfl ?_
            refine aw_bipush (v := 12) dX1_takeArray_65 (by decide) ?_
            refine aw_icmp_leN (B (p + 1)) 12 79 dX1_takeArray_67 (by decide) rfl rfl (by omega) (by omega) (fun c3 => ?_) (fun c3 => absurd (by omega) c3)
            refine aw_aload_n dX1_takeArray_79 2 rfl ?_
            refine aw_dup dX1_takeArray_80 rfl ?_
            refine aw_getI dX1_takeArray_81 fl_X1_21 (((hD.i 1 (nI (t + 1))).i 2 (nI (p + 1))).1.s 8 (by decide)) (((hD.i 1 (nI (t + 1))).i 2 (nI (p + 1))).1.n 8 (by decide)) ?_
            refine aw_topE (mI_stI_v _ _ _ _) ?_
            refine aw_iconst (v := 1) dX1_takeArray_84 (by decide) ?_
            refine aw_iaddN (p + 1) 1 dX1_takeArray_85 rfl rfl ?_
            refine aw_putI dX1_takeArray_86 fl_X1_21 (Or.inl rfl) (((hD.i 1 (nI (t + 1))).i 2 (nI (p + 1))).1.s 8 (by decide)) (((hD.i 1 (nI (t + 1))).i 2 (nI (p + 1))).1.n 8 (by decide)) ?_
            refine aw_aload_n dX1_takeArray_89 1 rfl ?_
            refine aw_iload_n dX1_takeArray_90 3 rfl ?_
            refine aw_bipush (v := 15) dX1_takeArray_91 (by decide) ?_
            refine aw_iand dX1_takeArray_93 ?_
            refine aw_topE and15 ?_
            refine aw_iload_n dX1_takeArray_94 0 rfl ?_
            refine aw_callVv [.int (nI (B p % 16)), .int (nI (B (p + 1)))] [] (sp_X2_beArray (d := d - 1) (by omega) (nI (B p % 16)) (B (p + 1)) ((((hD.i 1 (nI (t + 1))).i 2 (nI (p + 1))).i 2 (nI ((p + 1) + 1))).1.rrow (t := t) ht12) hz12) dX1_takeArray_95 ml_X1_63 im_X2_beArray ((((hD.i 1 (nI (t + 1))).i 2 (nI (p + 1))).i 2 (nI ((p + 1) + 1))).1.rrow (t := t) ht12).1 ((((hD.i 1 (nI (t + 1))).i 2 (nI (p + 1))).i 2 (nI ((p + 1) + 1))).1.rrow (t := t) ht12).n0 rfl rfl (dl1 (d := d) (by omega)) rfl rfl (Nat.le_of_ble_eq_true rfl) rfl rfl (Nat.zero_le _) (Nat.zero_le _) ?_
            refine aw_iload_n dX1_takeArray_98 3 rfl ?_
            refine aw_iconst (v := 4) dX1_takeArray_99 (by decide) ?_
            refine aw_ishr dX1_takeArray_100 ?_
            refine aw_iconst (v := 1) dX1_takeArray_101 (by decide) ?_
            refine aw_isub dX1_takeArray_102 ?_
            refine aw_topE (tg_sw2 hb (c := 1) c) ?_
            refine aw_lookup (off := 25) 128 dX1_takeArray_103 (by decide) (by decide) (by decide) ?_
            refine aw_aload_n dX1_takeArray_128 2 rfl ?_
            refine aw_aload_n dX1_takeArray_129 1 rfl ?_
            refine aw_callVx [.ref (10 + 3 * t)] [] hq dX1_takeArray_130 ml_X1_67 im_X1_takeRuns (hD3.1.s 8 (by decide)) (hD3.1.n 8 (by decide)) rfl rfl (dl1 (d := d) (by omega)) rfl rfl (Nat.le_of_ble_eq_true rfl) rfl rfl (Nat.zero_le _) (Nat.zero_le _) (fun r A1 hA1 => ?_)
            obtain ⟨b1, eb1⟩ := PR_b hA1
            rw [eb1] at hA1 ⊢
            refine aw_cons ?_
            refine aw_zret dX1_takeArray_133 rfl narrow_bz (Nat.zero_le _) (Nat.zero_le _) ?_
            exact hA1
          · rw [if_neg (by omega), if_pos c]
            have hq := sp_tS (d := d - 1) (by omega) hS (by have := tg4 c; omega) hC3 (by omega) z3 z1 z2
            refine aw_aload_n dX1_takeArray_0 0 rfl ?_
            refine aw_getI dX1_takeArray_1 fl_X1_17 (hD.1.s 8 (by decide)) (hD.1.n 8 (by decide)) ?_
            refine aw_topE hu1 ?_
            refine aw_bipush (v := 12) dX1_takeArray_4 (by decide) ?_
            refine aw_icmp_ltN t 12 18 dX1_takeArray_6 (by decide) rfl rfl (by omega) (by omega) (fun c1 => ?_) (fun c1 => absurd (by omega) c1)
            refine aw_aload_n dX1_takeArray_18 0 rfl ?_
            refine aw_getR (b := 9) dX1_takeArray_19 fl_X1_11 rfl (hD.1.s 8 (by decide)) (hD.1.n 8 (by decide)) (hD.1.r 8 0 (by decide) (by decide)) ?_
            refine aw_aload_n dX1_takeArray_22 0 rfl ?_
            refine aw_getI dX1_takeArray_23 fl_X1_17 (hD.1.s 8 (by decide)) (hD.1.n 8 (by decide)) ?_
            refine aw_topE hu1 ?_
            refine aw_aaldN t (10 + 3 * t) dX1_takeArray_26 (hD.1.s 9 (by decide)) (hD.1.n 9 (by decide)) rfl (by omega) (by first | decide | omega) (hD.1.rslot ht12) ?_
            refine aw_astore_n [(2, .ref (10 + 3 * t)), (0, .ref 8), (1, .int (nI (B p)))] dX1_takeArray_27 (Nat.le_of_ble_eq_true rfl) rfl ?_
            refine aw_aload_n dX1_takeArray_28 1 rfl ?_
            refine aw_dup dX1_takeArray_29 rfl ?_
            refine aw_getI dX1_takeArray_30 fl_X1_17 (hD.1.s 8 (by decide)) (hD.1.n 8 (by decide)) ?_
            refine aw_topE hu1 ?_
            refine aw_iconst (v := 1) dX1_takeArray_33 (by decide) ?_
            refine aw_iaddN t 1 dX1_takeArray_34 rfl rfl ?_
            refine aw_putI dX1_takeArray_35 fl_X1_17 (Or.inl rfl) (hD.1.s 8 (by decide)) (hD.1.n 8 (by decide)) ?_
            refine aw_aload_n dX1_takeArray_38 1 rfl ?_
            refine aw_dup dX1_takeArray_39 rfl ?_
            refine aw_getI dX1_takeArray_40 fl_X1_21 ((hD.i 1 (nI (t + 1))).1.s 8 (by decide)) ((hD.i 1 (nI (t + 1))).1.n 8 (by decide)) ?_
            refine aw_topE ((mI_stI_o _ _ _ _ (by decide)).trans hC.2.2.1) ?_
            refine aw_iconst (v := 1) dX1_takeArray_43 (by decide) ?_
            refine aw_iaddN p 1 dX1_takeArray_44 rfl rfl ?_
            refine aw_putI dX1_takeArray_45 fl_X1_21 (Or.inl rfl) ((hD.i 1 (nI (t + 1))).1.s 8 (by decide)) ((hD.i 1 (nI (t + 1))).1.n 8 (by decide)) ?_
            refine aw_aload_n dX1_takeArray_48 1 rfl ?_
            refine aw_getR (b := so) dX1_takeArray_49 fl_X1_31 rfl (((hD.i 1 (nI (t + 1))).i 2 (nI (p + 1))).1.s 8 (by decide)) (((hD.i 1 (nI (t + 1))).i 2 (nI (p + 1))).1.n 8 (by decide)) ((hD.i 1 (nI (t + 1))).i 2 (nI (p + 1))).2.1 ?_
            refine aw_aload_n dX1_takeArray_52 1 rfl ?_
            refine aw_getI dX1_takeArray_53 fl_X1_21 (((hD.i 1 (nI (t + 1))).i 2 (nI (p + 1))).1.s 8 (by decide)) (((hD.i 1 (nI (t + 1))).i 2 (nI (p + 1))).1.n 8 (by decide)) ?_
            refine aw_topE (mI_stI_v _ _ _ _) ?_
            refine aw_callVi [.int (nI (p + 1))] [] (sp_at (d := d - 1) ((hD.i 1 (nI (t + 1))).i 2 (nI (p + 1))) cl2) dX1_takeArray_56 ml_X1_36 im_X3_at ((hD.i 1 (nI (t + 1))).i 2 (nI (p + 1))).2.2.1.1 ((hD.i 1 (nI (t + 1))).i 2 (nI (p + 1))).2.2.1.n0 rfl rfl (dl1 (d := d) (by omega)) rfl rfl (Nat.le_of_ble_eq_true rfl) rfl rfl (Nat.zero_le _) (Nat.zero_le _) ?_
            refine aw_istore_n [(3, .int (nI (B (p + 1)))), (2, .ref (10 + 3 * t)), (0, .ref 8), (1, .int (nI (B p)))] dX1_takeArray_59 (Nat.le_of_ble_eq_true rfl) rfl ?_
            refine aw_iload_n dX1_takeArray_60 0 rfl ?_
            refine aw_if_lt 70 dX1_takeArray_61 (by decide) (fun c2 => absurd c2 (nI_nn (by omega))) (fun c2 => ?_)
            refine aw_iload_n dX1_takeArray_64 0 rfl ?_
            refine aw_bipush (v := 12) dX1_takeArray_65 (by decide) ?_
            refine aw_icmp_leN (B (p + 1)) 12 79 dX1_takeArray_67 (by decide) rfl rfl (by omega) (by omega) (fun c3 => ?_) (fun c3 => absurd (by omega) c3)
            refine aw_aload_n dX1_takeArray_79 2 rfl ?_
            refine aw_dup dX1_takeArray_80 rfl ?_
            refine aw_getI dX1_takeArray_81 fl_X1_21 (((hD.i 1 (nI (t + 1))).i 2 (nI (p + 1))).1.s 8 (by decide)) (((hD.i 1 (nI (t + 1))).i 2 (nI (p + 1))).1.n 8 (by decide)) ?_
            refine aw_topE (mI_stI_v _ _ _ _) ?_
            refine aw_iconst (v := 1) dX1_takeArray_84 (by decide) ?_
            refine aw_iaddN (p + 1) 1 dX1_takeArray_85 rfl rfl ?_
            refine aw_putI dX1_takeArray_86 fl_X1_21 (Or.inl rfl) (((hD.i 1 (nI (t + 1))).i 2 (nI (p + 1))).1.s 8 (by decide)) (((hD.i 1 (nI (t + 1))).i 2 (nI (p + 1))).1.n 8 (by decide)) ?_
            refine aw_aload_n dX1_takeArray_89 1 rfl ?_
            refine aw_iload_n dX1_takeArray_90 3 rfl ?_
            refine aw_bipush (v := 15) dX1_takeArray_91 (by decide) ?_
            refine aw_iand dX1_takeArray_93 ?_
            refine aw_topE and15 ?_
            refine aw_iload_n dX1_takeArray_94 0 rfl ?_
            refine aw_callVv [.int (nI (B p % 16)), .int (nI (B (p + 1)))] [] (sp_X2_beArray (d := d - 1) (by omega) (nI (B p % 16)) (B (p + 1)) ((((hD.i 1 (nI (t + 1))).i 2 (nI (p + 1))).i 2 (nI ((p + 1) + 1))).1.rrow (t := t) ht12) hz12) dX1_takeArray_95 ml_X1_63 im_X2_beArray ((((hD.i 1 (nI (t + 1))).i 2 (nI (p + 1))).i 2 (nI ((p + 1) + 1))).1.rrow (t := t) ht12).1 ((((hD.i 1 (nI (t + 1))).i 2 (nI (p + 1))).i 2 (nI ((p + 1) + 1))).1.rrow (t := t) ht12).n0 rfl rfl (dl1 (d := d) (by omega)) rfl rfl (Nat.le_of_ble_eq_true rfl) rfl rfl (Nat.zero_le _) (Nat.zero_le _) ?_
            refine aw_iload_n dX1_takeArray_98 3 rfl ?_
            refine aw_iconst (v := 4) dX1_takeArray_99 (by decide) ?_
            refine aw_ishr dX1_takeArray_100 ?_
            refine aw_iconst (v := 1) dX1_takeArray_101 (by decide) ?_
            refine aw_isub dX1_takeArray_102 ?_
            refine aw_topE (tg_sw2 hb (c := 2) c) ?_
            refine aw_lookup (off := 31) 134 dX1_takeArray_103 (by decide) (by decide) (by decide) ?_
            refine aw_aload_n dX1_takeArray_134 2 rfl ?_
            refine aw_aload_n dX1_takeArray_135 1 rfl ?_
            refine aw_callVx [.ref (10 + 3 * t)] [] hq dX1_takeArray_136 ml_X1_71 im_X1_takeSteps (hD3.1.s 8 (by decide)) (hD3.1.n 8 (by decide)) rfl rfl (dl1 (d := d) (by omega)) rfl rfl (Nat.le_of_ble_eq_true rfl) rfl rfl (Nat.zero_le _) (Nat.zero_le _) (fun r A1 hA1 => ?_)
            obtain ⟨b1, eb1⟩ := PR_b hA1
            rw [eb1] at hA1 ⊢
            refine aw_cons ?_
            refine aw_zret dX1_takeArray_139 rfl narrow_bz (Nat.zero_le _) (Nat.zero_le _) ?_
            exact hA1
        · rw [if_neg (fun z => hz12 z.2)]
          refine aw_aload_n dX1_takeArray_0 0 rfl ?_
          refine aw_getI dX1_takeArray_1 fl_X1_17 (hD.1.s 8 (by decide)) (hD.1.n 8 (by decide)) ?_
          refine aw_topE hu1 ?_
          refine aw_bipush (v := 12) dX1_takeArray_4 (by decide) ?_
          refine aw_icmp_ltN t 12 18 dX1_takeArray_6 (by decide) rfl rfl (by omega) (by omega) (fun c1 => ?_) (fun c1 => absurd (by omega) c1)
          refine aw_aload_n dX1_takeArray_18 0 rfl ?_
          refine aw_getR (b := 9) dX1_takeArray_19 fl_X1_11 rfl (hD.1.s 8 (by decide)) (hD.1.n 8 (by decide)) (hD.1.r 8 0 (by decide) (by decide)) ?_
          refine aw_aload_n dX1_takeArray_22 0 rfl ?_
          refine aw_getI dX1_takeArray_23 fl_X1_17 (hD.1.s 8 (by decide)) (hD.1.n 8 (by decide)) ?_
          refine aw_topE hu1 ?_
          refine aw_aaldN t (10 + 3 * t) dX1_takeArray_26 (hD.1.s 9 (by decide)) (hD.1.n 9 (by decide)) rfl (by omega) (by first | decide | omega) (hD.1.rslot ht12) ?_
          refine aw_astore_n [(2, .ref (10 + 3 * t)), (0, .ref 8), (1, .int (nI (B p)))] dX1_takeArray_27 (Nat.le_of_ble_eq_true rfl) rfl ?_
          refine aw_aload_n dX1_takeArray_28 1 rfl ?_
          refine aw_dup dX1_takeArray_29 rfl ?_
          refine aw_getI dX1_takeArray_30 fl_X1_17 (hD.1.s 8 (by decide)) (hD.1.n 8 (by decide)) ?_
          refine aw_topE hu1 ?_
          refine aw_iconst (v := 1) dX1_takeArray_33 (by decide) ?_
          refine aw_iaddN t 1 dX1_takeArray_34 rfl rfl ?_
          refine aw_putI dX1_takeArray_35 fl_X1_17 (Or.inl rfl) (hD.1.s 8 (by decide)) (hD.1.n 8 (by decide)) ?_
          refine aw_aload_n dX1_takeArray_38 1 rfl ?_
          refine aw_dup dX1_takeArray_39 rfl ?_
          refine aw_getI dX1_takeArray_40 fl_X1_21 ((hD.i 1 (nI (t + 1))).1.s 8 (by decide)) ((hD.i 1 (nI (t + 1))).1.n 8 (by decide)) ?_
          refine aw_topE ((mI_stI_o _ _ _ _ (by decide)).trans hC.2.2.1) ?_
          refine aw_iconst (v := 1) dX1_takeArray_43 (by decide) ?_
          refine aw_iaddN p 1 dX1_takeArray_44 rfl rfl ?_
          refine aw_putI dX1_takeArray_45 fl_X1_21 (Or.inl rfl) ((hD.i 1 (nI (t + 1))).1.s 8 (by decide)) ((hD.i 1 (nI (t + 1))).1.n 8 (by decide)) ?_
          refine aw_aload_n dX1_takeArray_48 1 rfl ?_
          refine aw_getR (b := so) dX1_takeArray_49 fl_X1_31 rfl (((hD.i 1 (nI (t + 1))).i 2 (nI (p + 1))).1.s 8 (by decide)) (((hD.i 1 (nI (t + 1))).i 2 (nI (p + 1))).1.n 8 (by decide)) ((hD.i 1 (nI (t + 1))).i 2 (nI (p + 1))).2.1 ?_
          refine aw_aload_n dX1_takeArray_52 1 rfl ?_
          refine aw_getI dX1_takeArray_53 fl_X1_21 (((hD.i 1 (nI (t + 1))).i 2 (nI (p + 1))).1.s 8 (by decide)) (((hD.i 1 (nI (t + 1))).i 2 (nI (p + 1))).1.n 8 (by decide)) ?_
          refine aw_topE (mI_stI_v _ _ _ _) ?_
          refine aw_callVi [.int (nI (p + 1))] [] (sp_at (d := d - 1) ((hD.i 1 (nI (t + 1))).i 2 (nI (p + 1))) cl2) dX1_takeArray_56 ml_X1_36 im_X3_at ((hD.i 1 (nI (t + 1))).i 2 (nI (p + 1))).2.2.1.1 ((hD.i 1 (nI (t + 1))).i 2 (nI (p + 1))).2.2.1.n0 rfl rfl (dl1 (d := d) (by omega)) rfl rfl (Nat.le_of_ble_eq_true rfl) rfl rfl (Nat.zero_le _) (Nat.zero_le _) ?_
          refine aw_istore_n [(3, .int (nI (B (p + 1)))), (2, .ref (10 + 3 * t)), (0, .ref 8), (1, .int (nI (B p)))] dX1_takeArray_59 (Nat.le_of_ble_eq_true rfl) rfl ?_
          refine aw_iload_n dX1_takeArray_60 0 rfl ?_
          refine aw_if_lt 70 dX1_takeArray_61 (by decide) (fun c2 => absurd c2 (nI_nn (by omega))) (fun c2 => ?_)
          refine aw_iload_n dX1_takeArray_64 0 rfl ?_
          refine aw_bipush (v := 12) dX1_takeArray_65 (by decide) ?_
          refine aw_icmp_leN (B (p + 1)) 12 79 dX1_takeArray_67 (by decide) rfl rfl (by omega) (by omega) (fun c3 => absurd c3 (by omega)) (fun c3 => ?_)
          refine aw_aload_n dX1_takeArray_70 2 rfl ?_
          refine aw_aload_n dX1_takeArray_71 2 rfl ?_
          refine aw_getI dX1_takeArray_72 fl_X1_21 (((hD.i 1 (nI (t + 1))).i 2 (nI (p + 1))).1.s 8 (by decide)) (((hD.i 1 (nI (t + 1))).i 2 (nI (p + 1))).1.n 8 (by decide)) ?_
          refine aw_topE (mI_stI_v _ _ _ _) ?_
          refine aw_callVi [.int (nI (p + 1))] [] (sp_X1_failAt (d := d - 1) (nI (p + 1)) ((hD.i 1 (nI (t + 1))).i 2 (nI (p + 1))).1) dX1_takeArray_75 ml_X1_49 im_X1_failAt (((hD.i 1 (nI (t + 1))).i 2 (nI (p + 1))).1.s 8 (by decide)) (((hD.i 1 (nI (t + 1))).i 2 (nI (p + 1))).1.n 8 (by decide)) rfl rfl (dl1 (d := d) (by omega)) rfl rfl (Nat.le_of_ble_eq_true rfl) rfl rfl (Nat.zero_le _) (Nat.zero_le _) ?_
          refine aw_zret dX1_takeArray_78 rfl rfl (Nat.zero_le _) (Nat.zero_le _) ?_
          exact ⟨rfl, ((hC.1.i 1 (nI (t + 1))).i 2 (nI (p + 1))).i 3 (nI (p + 1)), mI_stI_v _ _ _ _⟩
      · rw [if_neg (fun z => cl2 z.1)]
        refine aw_aload_n dX1_takeArray_0 0 rfl ?_
        refine aw_getI dX1_takeArray_1 fl_X1_17 (hD.1.s 8 (by decide)) (hD.1.n 8 (by decide)) ?_
        refine aw_topE hu1 ?_
        refine aw_bipush (v := 12) dX1_takeArray_4 (by decide) ?_
        refine aw_icmp_ltN t 12 18 dX1_takeArray_6 (by decide) rfl rfl (by omega) (by omega) (fun c1 => ?_) (fun c1 => absurd (by omega) c1)
        refine aw_aload_n dX1_takeArray_18 0 rfl ?_
        refine aw_getR (b := 9) dX1_takeArray_19 fl_X1_11 rfl (hD.1.s 8 (by decide)) (hD.1.n 8 (by decide)) (hD.1.r 8 0 (by decide) (by decide)) ?_
        refine aw_aload_n dX1_takeArray_22 0 rfl ?_
        refine aw_getI dX1_takeArray_23 fl_X1_17 (hD.1.s 8 (by decide)) (hD.1.n 8 (by decide)) ?_
        refine aw_topE hu1 ?_
        refine aw_aaldN t (10 + 3 * t) dX1_takeArray_26 (hD.1.s 9 (by decide)) (hD.1.n 9 (by decide)) rfl (by omega) (by first | decide | omega) (hD.1.rslot ht12) ?_
        refine aw_astore_n [(2, .ref (10 + 3 * t)), (0, .ref 8), (1, .int (nI (B p)))] dX1_takeArray_27 (Nat.le_of_ble_eq_true rfl) rfl ?_
        refine aw_aload_n dX1_takeArray_28 1 rfl ?_
        refine aw_dup dX1_takeArray_29 rfl ?_
        refine aw_getI dX1_takeArray_30 fl_X1_17 (hD.1.s 8 (by decide)) (hD.1.n 8 (by decide)) ?_
        refine aw_topE hu1 ?_
        refine aw_iconst (v := 1) dX1_takeArray_33 (by decide) ?_
        refine aw_iaddN t 1 dX1_takeArray_34 rfl rfl ?_
        refine aw_putI dX1_takeArray_35 fl_X1_17 (Or.inl rfl) (hD.1.s 8 (by decide)) (hD.1.n 8 (by decide)) ?_
        refine aw_aload_n dX1_takeArray_38 1 rfl ?_
        refine aw_dup dX1_takeArray_39 rfl ?_
        refine aw_getI dX1_takeArray_40 fl_X1_21 ((hD.i 1 (nI (t + 1))).1.s 8 (by decide)) ((hD.i 1 (nI (t + 1))).1.n 8 (by decide)) ?_
        refine aw_topE ((mI_stI_o _ _ _ _ (by decide)).trans hC.2.2.1) ?_
        refine aw_iconst (v := 1) dX1_takeArray_43 (by decide) ?_
        refine aw_iaddN p 1 dX1_takeArray_44 rfl rfl ?_
        refine aw_putI dX1_takeArray_45 fl_X1_21 (Or.inl rfl) ((hD.i 1 (nI (t + 1))).1.s 8 (by decide)) ((hD.i 1 (nI (t + 1))).1.n 8 (by decide)) ?_
        refine aw_aload_n dX1_takeArray_48 1 rfl ?_
        refine aw_getR (b := so) dX1_takeArray_49 fl_X1_31 rfl (((hD.i 1 (nI (t + 1))).i 2 (nI (p + 1))).1.s 8 (by decide)) (((hD.i 1 (nI (t + 1))).i 2 (nI (p + 1))).1.n 8 (by decide)) ((hD.i 1 (nI (t + 1))).i 2 (nI (p + 1))).2.1 ?_
        refine aw_aload_n dX1_takeArray_52 1 rfl ?_
        refine aw_getI dX1_takeArray_53 fl_X1_21 (((hD.i 1 (nI (t + 1))).i 2 (nI (p + 1))).1.s 8 (by decide)) (((hD.i 1 (nI (t + 1))).i 2 (nI (p + 1))).1.n 8 (by decide)) ?_
        refine aw_topE (mI_stI_v _ _ _ _) ?_
        refine aw_callVi [.int (nI (p + 1))] [] (sp_atn (d := d - 1) ((hD.i 1 (nI (t + 1))).i 2 (nI (p + 1))) cl2 (by omega)) dX1_takeArray_56 ml_X1_36 im_X3_at ((hD.i 1 (nI (t + 1))).i 2 (nI (p + 1))).2.2.1.1 ((hD.i 1 (nI (t + 1))).i 2 (nI (p + 1))).2.2.1.n0 rfl rfl (dl1 (d := d) (by omega)) rfl rfl (Nat.le_of_ble_eq_true rfl) rfl rfl (Nat.zero_le _) (Nat.zero_le _) ?_
        refine aw_istore_n [(3, .int (-1)), (2, .ref (10 + 3 * t)), (0, .ref 8), (1, .int (nI (B p)))] dX1_takeArray_59 (Nat.le_of_ble_eq_true rfl) rfl ?_
        refine aw_iload_n dX1_takeArray_60 0 rfl ?_
        refine aw_if_lt 70 dX1_takeArray_61 (by decide) (fun c2 => ?_) (fun c2 => absurd (by decide) c2)
        refine aw_aload_n dX1_takeArray_70 2 rfl ?_
        refine aw_aload_n dX1_takeArray_71 2 rfl ?_
        refine aw_getI dX1_takeArray_72 fl_X1_21 (((hD.i 1 (nI (t + 1))).i 2 (nI (p + 1))).1.s 8 (by decide)) (((hD.i 1 (nI (t + 1))).i 2 (nI (p + 1))).1.n 8 (by decide)) ?_
        refine aw_topE (mI_stI_v _ _ _ _) ?_
        refine aw_callVi [.int (nI (p + 1))] [] (sp_X1_failAt (d := d - 1) (nI (p + 1)) ((hD.i 1 (nI (t + 1))).i 2 (nI (p + 1))).1) dX1_takeArray_75 ml_X1_49 im_X1_failAt (((hD.i 1 (nI (t + 1))).i 2 (nI (p + 1))).1.s 8 (by decide)) (((hD.i 1 (nI (t + 1))).i 2 (nI (p + 1))).1.n 8 (by decide)) rfl rfl (dl1 (d := d) (by omega)) rfl rfl (Nat.le_of_ble_eq_true rfl) rfl rfl (Nat.zero_le _) (Nat.zero_le _) ?_
        refine aw_zret dX1_takeArray_78 rfl rfl (Nat.zero_le _) (Nat.zero_le _) ?_
        exact ⟨rfl, ((hC.1.i 1 (nI (t + 1))).i 2 (nI (p + 1))).i 3 (nI (p + 1)), mI_stI_v _ _ _ _⟩
    · rw [if_neg hu]
      refine aw_aload_n dX1_takeArray_0 0 rfl ?_
      refine aw_getI dX1_takeArray_1 fl_X1_17 (hD.1.s 8 (by decide)) (hD.1.n 8 (by decide)) ?_
      refine aw_topE hu1 ?_
      refine aw_bipush (v := 12) dX1_takeArray_4 (by decide) ?_
      refine aw_icmp_ltN t 12 18 dX1_takeArray_6 (by decide) rfl rfl (by omega) (by omega) (fun c1 => absurd c1 (by omega)) (fun c1 => ?_)
      refine aw_aload_n dX1_takeArray_9 0 rfl ?_
      refine aw_aload_n dX1_takeArray_10 0 rfl ?_
      refine aw_getI dX1_takeArray_11 fl_X1_21 (hD.1.s 8 (by decide)) (hD.1.n 8 (by decide)) ?_
      refine aw_topE hC.2.2.1 ?_
      refine aw_callVi [.int (nI p)] [] (sp_X1_failAt (d := d - 1) (nI p) hD.1) dX1_takeArray_14 ml_X1_49 im_X1_failAt (hD.1.s 8 (by decide)) (hD.1.n 8 (by decide)) rfl rfl (dl1 (d := d) (by omega)) rfl rfl (Nat.le_of_ble_eq_true rfl) rfl rfl (Nat.zero_le _) (Nat.zero_le _) ?_
      refine aw_zret dX1_takeArray_17 rfl rfl (Nat.zero_le _) (Nat.zero_le _) ?_
      exact ⟨rfl, hC.1.i 3 (nI p), mI_stI_v _ _ _ _⟩
def rZero : pR := (0, fun _ => 0, fun _ => 0, fun _ _ => 0, fun _ _ => 0)
def rThg (k : Nat) (v : Int64) : pR := (1, fun _ => k, fun _ => 0, fun _ _ => 0, fun _ _ => v)
def pItem (B : Nat → Nat) (L p : Nat) : pP := if p < L then (if sX1_isArrayTag (nI (B p)) = true then pArr B L 12 (B p) p rZero else if B p = 8 then (match pWord B L (p + 1) with
    | .error f => .error f
    | .ok vp => .ok (vp.2, rThg 15 vp.1)) else if B p = 9 then (match pBead B L 0 (p + 1) with
    | .error f => .error f
    | .ok vp => .ok (vp.2, rThg 14 vp.1)) else .error p) else .error p
def itM (M : xM) (so p : Nat) : xM := stI (stI (stI (stR M 8 4 (some so)) 8 2 (nI p)) 8 3 (-1)) 8 1 0
theorem itM_I (M : xM) {so p x : Nat} (h : x ≠ 8) : mI (itM M so p) x = mI M x := by
  unfold itM
  rw [mI_stI_c _ _ _ h, mI_stI_c _ _ _ h, mI_stI_c _ _ _ h]
  rfl
theorem itM_TC {M : xM} (hT : TC M) {so p : Nat} (h : so = 2 ∨ so = 4) : TC (itM M so p) := by
  obtain ⟨h1, h2, h3, h4⟩ := hT
  refine ⟨h1, h2, fun a k ha hk => ?_, ?_⟩
  · show xup M.2.2.1 8 4 (some so) a k = _
    unfold xup
    by_cases c : a = 8
    · rw [if_pos c, if_neg (hk c)]; exact h3 a k ha hk
    · rw [if_neg c]; exact h3 a k ha hk
  · show xup M.2.2.1 8 4 (some so) 8 4 = some 2 ∨ xup M.2.2.1 8 4 (some so) 8 4 = some 4
    rw [xup_s]
    rcases h with rfl | rfl
    · exact Or.inl rfl
    · exact Or.inr rfl
theorem itM_D {M : xM} (hT : TC M) {so N : Nat} {B : Nat → Nat} {L p : Nat} (h : so = 2 ∨ so = 4) (hs : StripAt M so N) (hN : N < 100000) (hL : L ≤ N) (hl : mI M so 1 = nI L) (hb : ∀ i, i < L → mI M (so + 1) i = nI (B i) ∧ B i < 256) : RdS (itM M so p) so N B L := by
  refine ⟨itM_TC hT h, xup_s M.2.2.1 8 4 (some so), ⟨hs.1, hs.2.1, ?_, hs.2.2.2⟩, hN, hL, by omega, by rw [itM_I M (by omega)]; exact hl, fun i hi => by rw [itM_I M (by omega)]; exact hb i hi⟩
  show xup M.2.2.1 8 4 (some so) so 0 = _
  unfold xup
  rw [if_neg (by omega)]
  exact hs.2.2.1
theorem itM_C (M : xM) (so p : Nat) : CS (itM M so p) p rZero (itM M so p) := by
  refine ⟨CF.rf _, mI_stI_v _ _ _ _, ?_, ?_, Nat.zero_le _, fun n hn => absurd hn (Nat.not_lt_zero _)⟩
  · unfold itM
    rw [mI_stI_o _ _ _ _ (by decide), mI_stI_o _ _ _ _ (by decide), mI_stI_v]
  · unfold itM
    rw [mI_stI_o _ _ _ _ (by decide), mI_stI_v]
theorem CS.thg {M0 A : xM} {p : Nat} {R : pR} (h : CS M0 p R A) {k : Nat} (hk : k < 16) (v : Int64) : CS M0 p (rThg k v) (stI (tX2_beThing A (10 + 3 * 0) (nI k) v) 8 1 1) := by
  obtain ⟨h1, h2, h3, h4, -⟩ := h
  have eI : ∀ x, x ≠ 8 → x ≠ 10 → mI (stI (tX2_beThing A (10 + 3 * 0) (nI k) v) 8 1 1) x = mI A x := fun x x1 x2 => by
    unfold tX2_beThing
    rw [mI_stI_c _ _ _ x1, mI_stL_c, mI_stI_c _ _ _ x2, mI_stI_c _ _ _ x2]
  have e8 : ∀ i, i ≠ 1 → mI (stI (tX2_beThing A (10 + 3 * 0) (nI k) v) 8 1 1) 8 i = mI A 8 i := fun i hi => by
    unfold tX2_beThing
    rw [mI_stI_o _ _ _ _ hi, mI_stL_c, mI_stI_c _ _ _ (by decide), mI_stI_c _ _ _ (by decide)]
  have eL : ∀ x, x ≠ 12 → mL (stI (tX2_beThing A (10 + 3 * 0) (nI k) v) 8 1 1) x = mL A x := fun x x1 => by
    unfold tX2_beThing
    rw [mL_stI_c, mL_stL_c _ _ _ x1]
    rfl
  refine ⟨h1.t ⟨⟨rfl, rfl, rfl⟩, fun x hx => ⟨eI x (by omega) (by omega), eL x (by omega)⟩⟩, mI_stI_v _ _ _ _, (e8 2 (by decide)).trans h3, (e8 3 (by decide)).trans h4, by show 1 ≤ 12; omega, fun n hn => ?_⟩
  obtain rfl : n = 0 := by have : n < 1 := hn; omega
  refine ⟨hk, Nat.zero_le _, ?_, ?_, fun _ => ?_, fun j hj => absurd hj (Nat.not_lt_zero _)⟩
  · unfold tX2_beThing
    rw [mI_stI_c _ _ _ (by decide), mI_stL_c, mI_stI_o _ _ _ _ (by decide), mI_stI_v]
    rfl
  · unfold tX2_beThing
    rw [mI_stI_c _ _ _ (by decide), mI_stL_c, mI_stI_v]
    rfl
  · exact xup_s A.2.1 12 0 v
theorem CF.thg {M0 A : xM} (h : CF M0 A) (k : Int32) (v : Int64) : CF M0 (stI (tX2_beThing A (10 + 3 * 0) k v) 8 1 1) := by
  refine h.t ⟨⟨rfl, rfl, rfl⟩, fun x hx => ⟨?_, ?_⟩⟩
  · unfold tX2_beThing
    rw [mI_stI_c _ _ _ (by omega), mI_stL_c, mI_stI_c _ _ _ (by omega), mI_stI_c _ _ _ (by omega)]
  · unfold tX2_beThing
    rw [mL_stI_c, mL_stL_c _ _ _ (by omega)]
    rfl
theorem thg_3 {A : xM} {x : Int32} (h : mI A 8 3 = x) (k : Int32) (v : Int64) : mI (stI (tX2_beThing A (10 + 3 * 0) k v) 8 1 1) 8 3 = x := by
  unfold tX2_beThing
  rw [mI_stI_o _ _ _ _ (by decide), mI_stL_c, mI_stI_c _ _ _ (by decide), mI_stI_c _ _ _ (by decide)]
  exact h
theorem sp_ti {d : Nat} (hd : 40 ≤ d) {M : xM} {so N : Nat} {B : Nat → Nat} {L p : Nat} (hT : TC M) (hS : RdS (itM M so p) so N B L) (hpl : p ≤ L) : Sp (fX1_takeItem d) [.ref 8, .ref so, .int (nI p)] M (PR (itM M so p) (pItem B L p)) := by
  refine Sp.of pn_X1 (Nat.le_of_ble_eq_true rfl) (fun h => Bool.noConfusion h) ?_
  have hL1 := hS.2.2.2.1
  have hL2 := hS.2.2.2.2.1
  have hC0 := itM_C M so p
  have hp1 : mI (stI (itM M so p) 8 2 (nI (p + 1))) 8 2 = nI (p + 1) := mI_stI_v _ _ _ _
  unfold pItem
  by_cases cl : p < L
  · rw [if_pos cl]
    have hb := (hS.2.2.2.2.2.2.2 p cl).2
    cases htag : sX1_isArrayTag (nI (B p)) with
    | true =>
      rw [if_pos rfl]
      have hq := sp_ta hS 12 (d - 1) (by omega) p rZero (itM M so p) hC0 cl (by decide) htag
      refine aw_aload_n dX1_takeItem_0 0 rfl ?_
      refine aw_aload_n dX1_takeItem_1 1 rfl ?_
      refine aw_putR dX1_takeItem_2 fl_X1_31 rfl (Or.inl rfl) (hT.s 8 (by decide)) (hT.n 8 (by decide)) ?_
      refine aw_aload_n dX1_takeItem_5 0 rfl ?_
      refine aw_iload_n dX1_takeItem_6 2 rfl ?_
      refine aw_putI dX1_takeItem_7 fl_X1_21 (Or.inl rfl) (hT.s 8 (by decide)) (hT.n 8 (by decide)) ?_
      refine aw_aload_n dX1_takeItem_10 0 rfl ?_
      refine aw_iconst (v := -1) dX1_takeItem_11 (by decide) ?_
      refine aw_putI dX1_takeItem_12 fl_X1_24 (Or.inl rfl) (hT.s 8 (by decide)) (hT.n 8 (by decide)) ?_
      refine aw_aload_n dX1_takeItem_15 0 rfl ?_
      refine aw_iconst (v := 0) dX1_takeItem_16 (by decide) ?_
      refine aw_putI dX1_takeItem_17 fl_X1_17 (Or.inl rfl) (hT.s 8 (by decide)) (hT.n 8 (by decide)) ?_
      refine aw_aload_n dX1_takeItem_20 0 rfl ?_
      refine aw_getR (b := so) dX1_takeItem_21 fl_X1_31 rfl (hS.1.s 8 (by decide)) (hS.1.n 8 (by decide)) hS.2.1 ?_
      refine aw_iload_n dX1_takeItem_24 2 rfl ?_
      refine aw_callVi [.int (nI p)] [] (sp_at (d := d - 1) hS cl) dX1_takeItem_25 ml_X1_36 im_X3_at hS.2.2.1.1 hS.2.2.1.n0 rfl rfl (dl1 (d := d) (by omega)) rfl rfl (Nat.le_of_ble_eq_true rfl) rfl rfl (Nat.zero_le _) (Nat.zero_le _) ?_
      refine aw_istore_n [(3, .int (nI (B p))), (0, .ref 8), (1, .ref so), (2, .int (nI p))] dX1_takeItem_28 (Nat.le_of_ble_eq_true rfl) rfl ?_
      refine aw_iload_n dX1_takeItem_29 0 rfl ?_
      refine aw_callSi [.int (nI (B p))] [] (sp_X1_isArrayTag (d := d - 1) (by omega) (nI (B p))) dX1_takeItem_30 ml_X1_42 sm_X1_isArrayTag rfl (dl1 (d := d) (by omega)) rfl rfl (Nat.le_of_ble_eq_true rfl) rfl rfl (Nat.zero_le _) (Nat.zero_le _) ?_
      refine aw_if_eq 42 dX1_takeItem_33 (by decide) (fun c1 => absurd c1 (bz_n0.mpr htag)) (fun c1 => ?_)
      refine aw_aload_n dX1_takeItem_36 1 rfl ?_
      refine aw_iload_n dX1_takeItem_37 0 rfl ?_
      refine aw_callVx [.int (nI (B p))] [] hq dX1_takeItem_38 ml_X1_46 im_X1_takeArray (hS.1.s 8 (by decide)) (hS.1.n 8 (by decide)) rfl rfl (dl1 (d := d) (by omega)) rfl rfl (Nat.le_of_ble_eq_true rfl) rfl rfl (Nat.zero_le _) (Nat.zero_le _) (fun r A1 hA1 => ?_)
      obtain ⟨b1, eb1⟩ := PR_b hA1
      rw [eb1] at hA1 ⊢
      refine aw_cons ?_
      refine aw_zret dX1_takeItem_41 rfl narrow_bz (Nat.zero_le _) (Nat.zero_le _) ?_
      exact hA1
    | false =>
      rw [if_neg (by decide)]
      by_cases c80 : B p = 8
      · rw [if_pos c80]
        have hq := (sp_tw (d := d - 1) (by omega) (hS.i 2 (nI (p + 1))) hp1 (by omega)).weaken (fun r A h => PL_i h)
        cases e : pWord B L (p + 1) with
        | error f =>
          rw [e] at hq
          refine aw_aload_n dX1_takeItem_0 0 rfl ?_
          refine aw_aload_n dX1_takeItem_1 1 rfl ?_
          refine aw_putR dX1_takeItem_2 fl_X1_31 rfl (Or.inl rfl) (hT.s 8 (by decide)) (hT.n 8 (by decide)) ?_
          refine aw_aload_n dX1_takeItem_5 0 rfl ?_
          refine aw_iload_n dX1_takeItem_6 2 rfl ?_
          refine aw_putI dX1_takeItem_7 fl_X1_21 (Or.inl rfl) (hT.s 8 (by decide)) (hT.n 8 (by decide)) ?_
          refine aw_aload_n dX1_takeItem_10 0 rfl ?_
          refine aw_iconst (v := -1) dX1_takeItem_11 (by decide) ?_
          refine aw_putI dX1_takeItem_12 fl_X1_24 (Or.inl rfl) (hT.s 8 (by decide)) (hT.n 8 (by decide)) ?_
          refine aw_aload_n dX1_takeItem_15 0 rfl ?_
          refine aw_iconst (v := 0) dX1_takeItem_16 (by decide) ?_
          refine aw_putI dX1_takeItem_17 fl_X1_17 (Or.inl rfl) (hT.s 8 (by decide)) (hT.n 8 (by decide)) ?_
          refine aw_aload_n dX1_takeItem_20 0 rfl ?_
          refine aw_getR (b := so) dX1_takeItem_21 fl_X1_31 rfl (hS.1.s 8 (by decide)) (hS.1.n 8 (by decide)) hS.2.1 ?_
          refine aw_iload_n dX1_takeItem_24 2 rfl ?_
          refine aw_callVi [.int (nI p)] [] (sp_at (d := d - 1) hS cl) dX1_takeItem_25 ml_X1_36 im_X3_at hS.2.2.1.1 hS.2.2.1.n0 rfl rfl (dl1 (d := d) (by omega)) rfl rfl (Nat.le_of_ble_eq_true rfl) rfl rfl (Nat.zero_le _) (Nat.zero_le _) ?_
          refine aw_istore_n [(3, .int (nI (B p))), (0, .ref 8), (1, .ref so), (2, .int (nI p))] dX1_takeItem_28 (Nat.le_of_ble_eq_true rfl) rfl ?_
          refine aw_iload_n dX1_takeItem_29 0 rfl ?_
          refine aw_callSi [.int (nI (B p))] [] (sp_X1_isArrayTag (d := d - 1) (by omega) (nI (B p))) dX1_takeItem_30 ml_X1_42 sm_X1_isArrayTag rfl (dl1 (d := d) (by omega)) rfl rfl (Nat.le_of_ble_eq_true rfl) rfl rfl (Nat.zero_le _) (Nat.zero_le _) ?_
          refine aw_if_eq 42 dX1_takeItem_33 (by decide) (fun c1 => ?_) (fun c1 => absurd (bz_0.mpr htag) c1)
          refine aw_iload_n dX1_takeItem_42 0 rfl ?_
          refine aw_bipush (v := 8) dX1_takeItem_43 (by decide) ?_
          refine aw_icmp_eqN (B p) 8 60 dX1_takeItem_45 (by decide) rfl rfl (by omega) (by omega) (fun c2 => ?_) (fun c2 => absurd c80 c2)
          refine aw_aload_n dX1_takeItem_60 1 rfl ?_
          refine aw_dup dX1_takeItem_61 rfl ?_
          refine aw_getI dX1_takeItem_62 fl_X1_21 (hS.1.s 8 (by decide)) (hS.1.n 8 (by decide)) ?_
          refine aw_topE hC0.2.2.1 ?_
          refine aw_iconst (v := 1) dX1_takeItem_65 (by decide) ?_
          refine aw_iaddN p 1 dX1_takeItem_66 rfl rfl ?_
          refine aw_putI dX1_takeItem_67 fl_X1_21 (Or.inl rfl) (hS.1.s 8 (by decide)) (hS.1.n 8 (by decide)) ?_
          refine aw_iload_n dX1_takeItem_70 0 rfl ?_
          refine aw_bipush (v := 8) dX1_takeItem_71 (by decide) ?_
          refine aw_icmp_neN (B p) 8 83 dX1_takeItem_73 (by decide) rfl rfl (by omega) (by omega) (fun c3 => absurd c80 c3) (fun c3 => ?_)
          refine aw_aload_n dX1_takeItem_76 1 rfl ?_
          refine aw_callVx [] [] hq dX1_takeItem_77 ml_X1_52 im_X1_takeWord ((hS.i 2 (nI (p + 1))).1.s 8 (by decide)) ((hS.i 2 (nI (p + 1))).1.n 8 (by decide)) rfl rfl (dl1 (d := d) (by omega)) rfl rfl (Nat.le_of_ble_eq_true rfl) rfl rfl (Nat.zero_le _) (Nat.zero_le _) (fun r A1 hA1 => ?_)
          obtain ⟨rfl, hA1⟩ := hA1
          refine aw_cons ?_
          have hD1 := (hC0.1.e hA1).D hS
          refine aw_goto 88 dX1_takeItem_80 (by decide) ?_
          refine aw_istore [(4, .int 0), (3, .int (nI (B p))), (0, .ref 8), (1, .ref so), (2, .int (nI p))] dX1_takeItem_88 (Nat.le_of_ble_eq_true rfl) rfl ?_
          refine aw_aload_n dX1_takeItem_90 2 rfl ?_
          refine aw_getR (b := 9) dX1_takeItem_91 fl_X1_11 rfl (hD1.1.s 8 (by decide)) (hD1.1.n 8 (by decide)) (hD1.1.r 8 0 (by decide) (by decide)) ?_
          refine aw_iconst (v := 0) dX1_takeItem_94 (by decide) ?_
          refine aw_aaldN 0 (10 + 3 * 0) dX1_takeItem_95 (hD1.1.s 9 (by decide)) (hD1.1.n 9 (by decide)) rfl (by omega) (by first | decide | omega) (hD1.1.rslot (by decide)) ?_
          refine aw_iload_n dX1_takeItem_96 1 rfl ?_
          refine aw_bipush (v := 8) dX1_takeItem_97 (by decide) ?_
          refine aw_icmp_neN (B p) 8 107 dX1_takeItem_99 (by decide) rfl rfl (by omega) (by omega) (fun c4 => absurd c80 c4) (fun c4 => ?_)
          refine aw_bipush (v := 15) dX1_takeItem_102 (by decide) ?_
          refine aw_goto 109 dX1_takeItem_104 (by decide) ?_
          refine aw_aload_n dX1_takeItem_109 2 rfl ?_
          refine aw_getL dX1_takeItem_110 fl_X1_27 (hD1.1.s 8 (by decide)) (hD1.1.n 8 (by decide)) ?_
          refine aw_toplE rfl ?_
          refine aw_callVv [.int 15, .long (mL A1 8 5)] [] (sp_X2_beThing (d := d - 1) (by omega) 15 (mL A1 8 5) (hD1.1.rrow (t := 0) (by decide))) dX1_takeItem_113 ml_X1_59 im_X2_beThing (hD1.1.rrow (t := 0) (by decide)).1 (hD1.1.rrow (t := 0) (by decide)).n0 rfl rfl (dl1 (d := d) (by omega)) rfl rfl (Nat.le_of_ble_eq_true rfl) rfl rfl (Nat.zero_le _) (Nat.zero_le _) ?_
          refine aw_aload_n dX1_takeItem_116 2 rfl ?_
          refine aw_iconst (v := 1) dX1_takeItem_117 (by decide) ?_
          refine aw_putI dX1_takeItem_118 fl_X1_17 (Or.inl rfl) ((hD1.k (sT_X2_beThing _ _ _ _) (fun x hx => by unfold tX2_beThing; rw [mI_stL_c, mI_stI_c _ _ _ (by omega), mI_stI_c _ _ _ (by omega)])).1.s 8 (by decide)) ((hD1.k (sT_X2_beThing _ _ _ _) (fun x hx => by unfold tX2_beThing; rw [mI_stL_c, mI_stI_c _ _ _ (by omega), mI_stI_c _ _ _ (by omega)])).1.n 8 (by decide)) ?_
          refine aw_iload dX1_takeItem_121 0 rfl ?_
          refine aw_zret dX1_takeItem_123 rfl rfl (Nat.zero_le _) (Nat.zero_le _) ?_
          exact ⟨rfl, (hC0.1.e hA1).thg _ _, thg_3 hA1.2.2.2 _ _⟩
        | ok vp =>
          rw [e] at hq
          refine aw_aload_n dX1_takeItem_0 0 rfl ?_
          refine aw_aload_n dX1_takeItem_1 1 rfl ?_
          refine aw_putR dX1_takeItem_2 fl_X1_31 rfl (Or.inl rfl) (hT.s 8 (by decide)) (hT.n 8 (by decide)) ?_
          refine aw_aload_n dX1_takeItem_5 0 rfl ?_
          refine aw_iload_n dX1_takeItem_6 2 rfl ?_
          refine aw_putI dX1_takeItem_7 fl_X1_21 (Or.inl rfl) (hT.s 8 (by decide)) (hT.n 8 (by decide)) ?_
          refine aw_aload_n dX1_takeItem_10 0 rfl ?_
          refine aw_iconst (v := -1) dX1_takeItem_11 (by decide) ?_
          refine aw_putI dX1_takeItem_12 fl_X1_24 (Or.inl rfl) (hT.s 8 (by decide)) (hT.n 8 (by decide)) ?_
          refine aw_aload_n dX1_takeItem_15 0 rfl ?_
          refine aw_iconst (v := 0) dX1_takeItem_16 (by decide) ?_
          refine aw_putI dX1_takeItem_17 fl_X1_17 (Or.inl rfl) (hT.s 8 (by decide)) (hT.n 8 (by decide)) ?_
          refine aw_aload_n dX1_takeItem_20 0 rfl ?_
          refine aw_getR (b := so) dX1_takeItem_21 fl_X1_31 rfl (hS.1.s 8 (by decide)) (hS.1.n 8 (by decide)) hS.2.1 ?_
          refine aw_iload_n dX1_takeItem_24 2 rfl ?_
          refine aw_callVi [.int (nI p)] [] (sp_at (d := d - 1) hS cl) dX1_takeItem_25 ml_X1_36 im_X3_at hS.2.2.1.1 hS.2.2.1.n0 rfl rfl (dl1 (d := d) (by omega)) rfl rfl (Nat.le_of_ble_eq_true rfl) rfl rfl (Nat.zero_le _) (Nat.zero_le _) ?_
          refine aw_istore_n [(3, .int (nI (B p))), (0, .ref 8), (1, .ref so), (2, .int (nI p))] dX1_takeItem_28 (Nat.le_of_ble_eq_true rfl) rfl ?_
          refine aw_iload_n dX1_takeItem_29 0 rfl ?_
          refine aw_callSi [.int (nI (B p))] [] (sp_X1_isArrayTag (d := d - 1) (by omega) (nI (B p))) dX1_takeItem_30 ml_X1_42 sm_X1_isArrayTag rfl (dl1 (d := d) (by omega)) rfl rfl (Nat.le_of_ble_eq_true rfl) rfl rfl (Nat.zero_le _) (Nat.zero_le _) ?_
          refine aw_if_eq 42 dX1_takeItem_33 (by decide) (fun c1 => ?_) (fun c1 => absurd (bz_0.mpr htag) c1)
          refine aw_iload_n dX1_takeItem_42 0 rfl ?_
          refine aw_bipush (v := 8) dX1_takeItem_43 (by decide) ?_
          refine aw_icmp_eqN (B p) 8 60 dX1_takeItem_45 (by decide) rfl rfl (by omega) (by omega) (fun c2 => ?_) (fun c2 => absurd c80 c2)
          refine aw_aload_n dX1_takeItem_60 1 rfl ?_
          refine aw_dup dX1_takeItem_61 rfl ?_
          refine aw_getI dX1_takeItem_62 fl_X1_21 (hS.1.s 8 (by decide)) (hS.1.n 8 (by decide)) ?_
          refine aw_topE hC0.2.2.1 ?_
          refine aw_iconst (v := 1) dX1_takeItem_65 (by decide) ?_
          refine aw_iaddN p 1 dX1_takeItem_66 rfl rfl ?_
          refine aw_putI dX1_takeItem_67 fl_X1_21 (Or.inl rfl) (hS.1.s 8 (by decide)) (hS.1.n 8 (by decide)) ?_
          refine aw_iload_n dX1_takeItem_70 0 rfl ?_
          refine aw_bipush (v := 8) dX1_takeItem_71 (by decide) ?_
          refine aw_icmp_neN (B p) 8 83 dX1_takeItem_73 (by decide) rfl rfl (by omega) (by omega) (fun c3 => absurd c80 c3) (fun c3 => ?_)
          refine aw_aload_n dX1_takeItem_76 1 rfl ?_
          refine aw_callVi [] [] hq dX1_takeItem_77 ml_X1_52 im_X1_takeWord ((hS.i 2 (nI (p + 1))).1.s 8 (by decide)) ((hS.i 2 (nI (p + 1))).1.n 8 (by decide)) rfl rfl (dl1 (d := d) (by omega)) rfl rfl (Nat.le_of_ble_eq_true rfl) rfl rfl (Nat.zero_le _) (Nat.zero_le _) ?_
          refine aw_goto 88 dX1_takeItem_80 (by decide) ?_
          refine aw_istore [(4, .int 1), (3, .int (nI (B p))), (0, .ref 8), (1, .ref so), (2, .int (nI p))] dX1_takeItem_88 (Nat.le_of_ble_eq_true rfl) rfl ?_
          refine aw_aload_n dX1_takeItem_90 2 rfl ?_
          refine aw_getR (b := 9) dX1_takeItem_91 fl_X1_11 rfl ((hS.v vp.1 vp.2).1.s 8 (by decide)) ((hS.v vp.1 vp.2).1.n 8 (by decide)) ((hS.v vp.1 vp.2).1.r 8 0 (by decide) (by decide)) ?_
          refine aw_iconst (v := 0) dX1_takeItem_94 (by decide) ?_
          refine aw_aaldN 0 (10 + 3 * 0) dX1_takeItem_95 ((hS.v vp.1 vp.2).1.s 9 (by decide)) ((hS.v vp.1 vp.2).1.n 9 (by decide)) rfl (by omega) (by first | decide | omega) ((hS.v vp.1 vp.2).1.rslot (by decide)) ?_
          refine aw_iload_n dX1_takeItem_96 1 rfl ?_
          refine aw_bipush (v := 8) dX1_takeItem_97 (by decide) ?_
          refine aw_icmp_neN (B p) 8 107 dX1_takeItem_99 (by decide) rfl rfl (by omega) (by omega) (fun c4 => absurd c80 c4) (fun c4 => ?_)
          refine aw_bipush (v := 15) dX1_takeItem_102 (by decide) ?_
          refine aw_goto 109 dX1_takeItem_104 (by decide) ?_
          refine aw_aload_n dX1_takeItem_109 2 rfl ?_
          refine aw_getL dX1_takeItem_110 fl_X1_27 ((hS.v vp.1 vp.2).1.s 8 (by decide)) ((hS.v vp.1 vp.2).1.n 8 (by decide)) ?_
          refine aw_toplE (vpM_v _ vp.1 vp.2) ?_
          refine aw_callVv [.int 15, .long vp.1] [] (sp_X2_beThing (d := d - 1) (by omega) 15 vp.1 ((hS.v vp.1 vp.2).1.rrow (t := 0) (by decide))) dX1_takeItem_113 ml_X1_59 im_X2_beThing ((hS.v vp.1 vp.2).1.rrow (t := 0) (by decide)).1 ((hS.v vp.1 vp.2).1.rrow (t := 0) (by decide)).n0 rfl rfl (dl1 (d := d) (by omega)) rfl rfl (Nat.le_of_ble_eq_true rfl) rfl rfl (Nat.zero_le _) (Nat.zero_le _) ?_
          refine aw_aload_n dX1_takeItem_116 2 rfl ?_
          refine aw_iconst (v := 1) dX1_takeItem_117 (by decide) ?_
          refine aw_putI dX1_takeItem_118 fl_X1_17 (Or.inl rfl) (((hS.v vp.1 vp.2).k (sT_X2_beThing _ _ _ _) (fun x hx => by unfold tX2_beThing; rw [mI_stL_c, mI_stI_c _ _ _ (by omega), mI_stI_c _ _ _ (by omega)])).1.s 8 (by decide)) (((hS.v vp.1 vp.2).k (sT_X2_beThing _ _ _ _) (fun x hx => by unfold tX2_beThing; rw [mI_stL_c, mI_stI_c _ _ _ (by omega), mI_stI_c _ _ _ (by omega)])).1.n 8 (by decide)) ?_
          refine aw_iload dX1_takeItem_121 0 rfl ?_
          refine aw_zret dX1_takeItem_123 rfl rfl (Nat.zero_le _) (Nat.zero_le _) ?_
          exact ⟨rfl, (hC0.v vp.1 vp.2).thg (k := 15) (by decide) vp.1⟩
      · rw [if_neg c80]
        by_cases c90 : B p = 9
        · rw [if_pos c90]
          have hq := (sp_tb (d := d - 1) (a := 0) (by omega) (hS.i 2 (nI (p + 1))) hp1 (by omega) (by decide)).weaken (fun r A h => PL_i h)
          cases e : pBead B L 0 (p + 1) with
          | error f =>
            rw [e] at hq
            refine aw_aload_n dX1_takeItem_0 0 rfl ?_
            refine aw_aload_n dX1_takeItem_1 1 rfl ?_
            refine aw_putR dX1_takeItem_2 fl_X1_31 rfl (Or.inl rfl) (hT.s 8 (by decide)) (hT.n 8 (by decide)) ?_
            refine aw_aload_n dX1_takeItem_5 0 rfl ?_
            refine aw_iload_n dX1_takeItem_6 2 rfl ?_
            refine aw_putI dX1_takeItem_7 fl_X1_21 (Or.inl rfl) (hT.s 8 (by decide)) (hT.n 8 (by decide)) ?_
            refine aw_aload_n dX1_takeItem_10 0 rfl ?_
            refine aw_iconst (v := -1) dX1_takeItem_11 (by decide) ?_
            refine aw_putI dX1_takeItem_12 fl_X1_24 (Or.inl rfl) (hT.s 8 (by decide)) (hT.n 8 (by decide)) ?_
            refine aw_aload_n dX1_takeItem_15 0 rfl ?_
            refine aw_iconst (v := 0) dX1_takeItem_16 (by decide) ?_
            refine aw_putI dX1_takeItem_17 fl_X1_17 (Or.inl rfl) (hT.s 8 (by decide)) (hT.n 8 (by decide)) ?_
            refine aw_aload_n dX1_takeItem_20 0 rfl ?_
            refine aw_getR (b := so) dX1_takeItem_21 fl_X1_31 rfl (hS.1.s 8 (by decide)) (hS.1.n 8 (by decide)) hS.2.1 ?_
            refine aw_iload_n dX1_takeItem_24 2 rfl ?_
            refine aw_callVi [.int (nI p)] [] (sp_at (d := d - 1) hS cl) dX1_takeItem_25 ml_X1_36 im_X3_at hS.2.2.1.1 hS.2.2.1.n0 rfl rfl (dl1 (d := d) (by omega)) rfl rfl (Nat.le_of_ble_eq_true rfl) rfl rfl (Nat.zero_le _) (Nat.zero_le _) ?_
            refine aw_istore_n [(3, .int (nI (B p))), (0, .ref 8), (1, .ref so), (2, .int (nI p))] dX1_takeItem_28 (Nat.le_of_ble_eq_true rfl) rfl ?_
            refine aw_iload_n dX1_takeItem_29 0 rfl ?_
            refine aw_callSi [.int (nI (B p))] [] (sp_X1_isArrayTag (d := d - 1) (by omega) (nI (B p))) dX1_takeItem_30 ml_X1_42 sm_X1_isArrayTag rfl (dl1 (d := d) (by omega)) rfl rfl (Nat.le_of_ble_eq_true rfl) rfl rfl (Nat.zero_le _) (Nat.zero_le _) ?_
            refine aw_if_eq 42 dX1_takeItem_33 (by decide) (fun c1 => ?_) (fun c1 => absurd (bz_0.mpr htag) c1)
            refine aw_iload_n dX1_takeItem_42 0 rfl ?_
            refine aw_bipush (v := 8) dX1_takeItem_43 (by decide) ?_
            refine aw_icmp_eqN (B p) 8 60 dX1_takeItem_45 (by decide) rfl rfl (by omega) (by omega) (fun c2 => absurd c2 (by omega)) (fun c2 => ?_)
            refine aw_iload_n dX1_takeItem_48 0 rfl ?_
            refine aw_bipush (v := 9) dX1_takeItem_49 (by decide) ?_
            refine aw_icmp_eqN (B p) 9 60 dX1_takeItem_51 (by decide) rfl rfl (by omega) (by omega) (fun c3 => ?_) (fun c3 => absurd c90 c3)
            refine aw_aload_n dX1_takeItem_60 1 rfl ?_
            refine aw_dup dX1_takeItem_61 rfl ?_
            refine aw_getI dX1_takeItem_62 fl_X1_21 (hS.1.s 8 (by decide)) (hS.1.n 8 (by decide)) ?_
            refine aw_topE hC0.2.2.1 ?_
            refine aw_iconst (v := 1) dX1_takeItem_65 (by decide) ?_
            refine aw_iaddN p 1 dX1_takeItem_66 rfl rfl ?_
            refine aw_putI dX1_takeItem_67 fl_X1_21 (Or.inl rfl) (hS.1.s 8 (by decide)) (hS.1.n 8 (by decide)) ?_
            refine aw_iload_n dX1_takeItem_70 0 rfl ?_
            refine aw_bipush (v := 8) dX1_takeItem_71 (by decide) ?_
            refine aw_icmp_neN (B p) 8 83 dX1_takeItem_73 (by decide) rfl rfl (by omega) (by omega) (fun c4 => ?_) (fun c4 => absurd c4 (by omega))
            refine aw_aload_n dX1_takeItem_83 1 rfl ?_
            refine aw_iconst (v := 0) dX1_takeItem_84 (by decide) ?_
            refine aw_callVx [.int 0] [] hq dX1_takeItem_85 ml_X1_56 im_X1_takeBead ((hS.i 2 (nI (p + 1))).1.s 8 (by decide)) ((hS.i 2 (nI (p + 1))).1.n 8 (by decide)) rfl rfl (dl1 (d := d) (by omega)) rfl rfl (Nat.le_of_ble_eq_true rfl) rfl rfl (Nat.zero_le _) (Nat.zero_le _) (fun r A1 hA1 => ?_)
            obtain ⟨rfl, hA1⟩ := hA1
            refine aw_cons ?_
            have hD1 := (hC0.1.e hA1).D hS
            refine aw_istore [(4, .int 0), (3, .int (nI (B p))), (0, .ref 8), (1, .ref so), (2, .int (nI p))] dX1_takeItem_88 (Nat.le_of_ble_eq_true rfl) rfl ?_
            refine aw_aload_n dX1_takeItem_90 2 rfl ?_
            refine aw_getR (b := 9) dX1_takeItem_91 fl_X1_11 rfl (hD1.1.s 8 (by decide)) (hD1.1.n 8 (by decide)) (hD1.1.r 8 0 (by decide) (by decide)) ?_
            refine aw_iconst (v := 0) dX1_takeItem_94 (by decide) ?_
            refine aw_aaldN 0 (10 + 3 * 0) dX1_takeItem_95 (hD1.1.s 9 (by decide)) (hD1.1.n 9 (by decide)) rfl (by omega) (by first | decide | omega) (hD1.1.rslot (by decide)) ?_
            refine aw_iload_n dX1_takeItem_96 1 rfl ?_
            refine aw_bipush (v := 8) dX1_takeItem_97 (by decide) ?_
            refine aw_icmp_neN (B p) 8 107 dX1_takeItem_99 (by decide) rfl rfl (by omega) (by omega) (fun c5 => ?_) (fun c5 => absurd c5 (by omega))
            refine aw_bipush (v := 14) dX1_takeItem_107 (by decide) ?_
            refine aw_aload_n dX1_takeItem_109 2 rfl ?_
            refine aw_getL dX1_takeItem_110 fl_X1_27 (hD1.1.s 8 (by decide)) (hD1.1.n 8 (by decide)) ?_
            refine aw_toplE rfl ?_
            refine aw_callVv [.int 14, .long (mL A1 8 5)] [] (sp_X2_beThing (d := d - 1) (by omega) 14 (mL A1 8 5) (hD1.1.rrow (t := 0) (by decide))) dX1_takeItem_113 ml_X1_59 im_X2_beThing (hD1.1.rrow (t := 0) (by decide)).1 (hD1.1.rrow (t := 0) (by decide)).n0 rfl rfl (dl1 (d := d) (by omega)) rfl rfl (Nat.le_of_ble_eq_true rfl) rfl rfl (Nat.zero_le _) (Nat.zero_le _) ?_
            refine aw_aload_n dX1_takeItem_116 2 rfl ?_
            refine aw_iconst (v := 1) dX1_takeItem_117 (by decide) ?_
            refine aw_putI dX1_takeItem_118 fl_X1_17 (Or.inl rfl) ((hD1.k (sT_X2_beThing _ _ _ _) (fun x hx => by unfold tX2_beThing; rw [mI_stL_c, mI_stI_c _ _ _ (by omega), mI_stI_c _ _ _ (by omega)])).1.s 8 (by decide)) ((hD1.k (sT_X2_beThing _ _ _ _) (fun x hx => by unfold tX2_beThing; rw [mI_stL_c, mI_stI_c _ _ _ (by omega), mI_stI_c _ _ _ (by omega)])).1.n 8 (by decide)) ?_
            refine aw_iload dX1_takeItem_121 0 rfl ?_
            refine aw_zret dX1_takeItem_123 rfl rfl (Nat.zero_le _) (Nat.zero_le _) ?_
            exact ⟨rfl, (hC0.1.e hA1).thg _ _, thg_3 hA1.2.2.2 _ _⟩
          | ok vp =>
            rw [e] at hq
            refine aw_aload_n dX1_takeItem_0 0 rfl ?_
            refine aw_aload_n dX1_takeItem_1 1 rfl ?_
            refine aw_putR dX1_takeItem_2 fl_X1_31 rfl (Or.inl rfl) (hT.s 8 (by decide)) (hT.n 8 (by decide)) ?_
            refine aw_aload_n dX1_takeItem_5 0 rfl ?_
            refine aw_iload_n dX1_takeItem_6 2 rfl ?_
            refine aw_putI dX1_takeItem_7 fl_X1_21 (Or.inl rfl) (hT.s 8 (by decide)) (hT.n 8 (by decide)) ?_
            refine aw_aload_n dX1_takeItem_10 0 rfl ?_
            refine aw_iconst (v := -1) dX1_takeItem_11 (by decide) ?_
            refine aw_putI dX1_takeItem_12 fl_X1_24 (Or.inl rfl) (hT.s 8 (by decide)) (hT.n 8 (by decide)) ?_
            refine aw_aload_n dX1_takeItem_15 0 rfl ?_
            refine aw_iconst (v := 0) dX1_takeItem_16 (by decide) ?_
            refine aw_putI dX1_takeItem_17 fl_X1_17 (Or.inl rfl) (hT.s 8 (by decide)) (hT.n 8 (by decide)) ?_
            refine aw_aload_n dX1_takeItem_20 0 rfl ?_
            refine aw_getR (b := so) dX1_takeItem_21 fl_X1_31 rfl (hS.1.s 8 (by decide)) (hS.1.n 8 (by decide)) hS.2.1 ?_
            refine aw_iload_n dX1_takeItem_24 2 rfl ?_
            refine aw_callVi [.int (nI p)] [] (sp_at (d := d - 1) hS cl) dX1_takeItem_25 ml_X1_36 im_X3_at hS.2.2.1.1 hS.2.2.1.n0 rfl rfl (dl1 (d := d) (by omega)) rfl rfl (Nat.le_of_ble_eq_true rfl) rfl rfl (Nat.zero_le _) (Nat.zero_le _) ?_
            refine aw_istore_n [(3, .int (nI (B p))), (0, .ref 8), (1, .ref so), (2, .int (nI p))] dX1_takeItem_28 (Nat.le_of_ble_eq_true rfl) rfl ?_
            refine aw_iload_n dX1_takeItem_29 0 rfl ?_
            refine aw_callSi [.int (nI (B p))] [] (sp_X1_isArrayTag (d := d - 1) (by omega) (nI (B p))) dX1_takeItem_30 ml_X1_42 sm_X1_isArrayTag rfl (dl1 (d := d) (by omega)) rfl rfl (Nat.le_of_ble_eq_true rfl) rfl rfl (Nat.zero_le _) (Nat.zero_le _) ?_
            refine aw_if_eq 42 dX1_takeItem_33 (by decide) (fun c1 => ?_) (fun c1 => absurd (bz_0.mpr htag) c1)
            refine aw_iload_n dX1_takeItem_42 0 rfl ?_
            refine aw_bipush (v := 8) dX1_takeItem_43 (by decide) ?_
            refine aw_icmp_eqN (B p) 8 60 dX1_takeItem_45 (by decide) rfl rfl (by omega) (by omega) (fun c2 => absurd c2 (by omega)) (fun c2 => ?_)
            refine aw_iload_n dX1_takeItem_48 0 rfl ?_
            refine aw_bipush (v := 9) dX1_takeItem_49 (by decide) ?_
            refine aw_icmp_eqN (B p) 9 60 dX1_takeItem_51 (by decide) rfl rfl (by omega) (by omega) (fun c3 => ?_) (fun c3 => absurd c90 c3)
            refine aw_aload_n dX1_takeItem_60 1 rfl ?_
            refine aw_dup dX1_takeItem_61 rfl ?_
            refine aw_getI dX1_takeItem_62 fl_X1_21 (hS.1.s 8 (by decide)) (hS.1.n 8 (by decide)) ?_
            refine aw_topE hC0.2.2.1 ?_
            refine aw_iconst (v := 1) dX1_takeItem_65 (by decide) ?_
            refine aw_iaddN p 1 dX1_takeItem_66 rfl rfl ?_
            refine aw_putI dX1_takeItem_67 fl_X1_21 (Or.inl rfl) (hS.1.s 8 (by decide)) (hS.1.n 8 (by decide)) ?_
            refine aw_iload_n dX1_takeItem_70 0 rfl ?_
            refine aw_bipush (v := 8) dX1_takeItem_71 (by decide) ?_
            refine aw_icmp_neN (B p) 8 83 dX1_takeItem_73 (by decide) rfl rfl (by omega) (by omega) (fun c4 => ?_) (fun c4 => absurd c4 (by omega))
            refine aw_aload_n dX1_takeItem_83 1 rfl ?_
            refine aw_iconst (v := 0) dX1_takeItem_84 (by decide) ?_
            refine aw_callVi [.int 0] [] hq dX1_takeItem_85 ml_X1_56 im_X1_takeBead ((hS.i 2 (nI (p + 1))).1.s 8 (by decide)) ((hS.i 2 (nI (p + 1))).1.n 8 (by decide)) rfl rfl (dl1 (d := d) (by omega)) rfl rfl (Nat.le_of_ble_eq_true rfl) rfl rfl (Nat.zero_le _) (Nat.zero_le _) ?_
            refine aw_istore [(4, .int 1), (3, .int (nI (B p))), (0, .ref 8), (1, .ref so), (2, .int (nI p))] dX1_takeItem_88 (Nat.le_of_ble_eq_true rfl) rfl ?_
            refine aw_aload_n dX1_takeItem_90 2 rfl ?_
            refine aw_getR (b := 9) dX1_takeItem_91 fl_X1_11 rfl ((hS.v vp.1 vp.2).1.s 8 (by decide)) ((hS.v vp.1 vp.2).1.n 8 (by decide)) ((hS.v vp.1 vp.2).1.r 8 0 (by decide) (by decide)) ?_
            refine aw_iconst (v := 0) dX1_takeItem_94 (by decide) ?_
            refine aw_aaldN 0 (10 + 3 * 0) dX1_takeItem_95 ((hS.v vp.1 vp.2).1.s 9 (by decide)) ((hS.v vp.1 vp.2).1.n 9 (by decide)) rfl (by omega) (by first | decide | omega) ((hS.v vp.1 vp.2).1.rslot (by decide)) ?_
            refine aw_iload_n dX1_takeItem_96 1 rfl ?_
            refine aw_bipush (v := 8) dX1_takeItem_97 (by decide) ?_
            refine aw_icmp_neN (B p) 8 107 dX1_takeItem_99 (by decide) rfl rfl (by omega) (by omega) (fun c5 => ?_) (fun c5 => absurd c5 (by omega))
            refine aw_bipush (v := 14) dX1_takeItem_107 (by decide) ?_
            refine aw_aload_n dX1_takeItem_109 2 rfl ?_
            refine aw_getL dX1_takeItem_110 fl_X1_27 ((hS.v vp.1 vp.2).1.s 8 (by decide)) ((hS.v vp.1 vp.2).1.n 8 (by decide)) ?_
            refine aw_toplE (vpM_v _ vp.1 vp.2) ?_
            refine aw_callVv [.int 14, .long vp.1] [] (sp_X2_beThing (d := d - 1) (by omega) 14 vp.1 ((hS.v vp.1 vp.2).1.rrow (t := 0) (by decide))) dX1_takeItem_113 ml_X1_59 im_X2_beThing ((hS.v vp.1 vp.2).1.rrow (t := 0) (by decide)).1 ((hS.v vp.1 vp.2).1.rrow (t := 0) (by decide)).n0 rfl rfl (dl1 (d := d) (by omega)) rfl rfl (Nat.le_of_ble_eq_true rfl) rfl rfl (Nat.zero_le _) (Nat.zero_le _) ?_
            refine aw_aload_n dX1_takeItem_116 2 rfl ?_
            refine aw_iconst (v := 1) dX1_takeItem_117 (by decide) ?_
            refine aw_putI dX1_takeItem_118 fl_X1_17 (Or.inl rfl) (((hS.v vp.1 vp.2).k (sT_X2_beThing _ _ _ _) (fun x hx => by unfold tX2_beThing; rw [mI_stL_c, mI_stI_c _ _ _ (by omega), mI_stI_c _ _ _ (by omega)])).1.s 8 (by decide)) (((hS.v vp.1 vp.2).k (sT_X2_beThing _ _ _ _) (fun x hx => by unfold tX2_beThing; rw [mI_stL_c, mI_stI_c _ _ _ (by omega), mI_stI_c _ _ _ (by omega)])).1.n 8 (by decide)) ?_
            refine aw_iload dX1_takeItem_121 0 rfl ?_
            refine aw_zret dX1_takeItem_123 rfl rfl (Nat.zero_le _) (Nat.zero_le _) ?_
            exact ⟨rfl, (hC0.v vp.1 vp.2).thg (k := 14) (by decide) vp.1⟩
        · rw [if_neg c90]
          refine aw_aload_n dX1_takeItem_0 0 rfl ?_
          refine aw_aload_n dX1_takeItem_1 1 rfl ?_
          refine aw_putR dX1_takeItem_2 fl_X1_31 rfl (Or.inl rfl) (hT.s 8 (by decide)) (hT.n 8 (by decide)) ?_
          refine aw_aload_n dX1_takeItem_5 0 rfl ?_
          refine aw_iload_n dX1_takeItem_6 2 rfl ?_
          refine aw_putI dX1_takeItem_7 fl_X1_21 (Or.inl rfl) (hT.s 8 (by decide)) (hT.n 8 (by decide)) ?_
          refine aw_aload_n dX1_takeItem_10 0 rfl ?_
          refine aw_iconst (v := -1) dX1_takeItem_11 (by decide) ?_
          refine aw_putI dX1_takeItem_12 fl_X1_24 (Or.inl rfl) (hT.s 8 (by decide)) (hT.n 8 (by decide)) ?_
          refine aw_aload_n dX1_takeItem_15 0 rfl ?_
          refine aw_iconst (v := 0) dX1_takeItem_16 (by decide) ?_
          refine aw_putI dX1_takeItem_17 fl_X1_17 (Or.inl rfl) (hT.s 8 (by decide)) (hT.n 8 (by decide)) ?_
          refine aw_aload_n dX1_takeItem_20 0 rfl ?_
          refine aw_getR (b := so) dX1_takeItem_21 fl_X1_31 rfl (hS.1.s 8 (by decide)) (hS.1.n 8 (by decide)) hS.2.1 ?_
          refine aw_iload_n dX1_takeItem_24 2 rfl ?_
          refine aw_callVi [.int (nI p)] [] (sp_at (d := d - 1) hS cl) dX1_takeItem_25 ml_X1_36 im_X3_at hS.2.2.1.1 hS.2.2.1.n0 rfl rfl (dl1 (d := d) (by omega)) rfl rfl (Nat.le_of_ble_eq_true rfl) rfl rfl (Nat.zero_le _) (Nat.zero_le _) ?_
          refine aw_istore_n [(3, .int (nI (B p))), (0, .ref 8), (1, .ref so), (2, .int (nI p))] dX1_takeItem_28 (Nat.le_of_ble_eq_true rfl) rfl ?_
          refine aw_iload_n dX1_takeItem_29 0 rfl ?_
          refine aw_callSi [.int (nI (B p))] [] (sp_X1_isArrayTag (d := d - 1) (by omega) (nI (B p))) dX1_takeItem_30 ml_X1_42 sm_X1_isArrayTag rfl (dl1 (d := d) (by omega)) rfl rfl (Nat.le_of_ble_eq_true rfl) rfl rfl (Nat.zero_le _) (Nat.zero_le _) ?_
          refine aw_if_eq 42 dX1_takeItem_33 (by decide) (fun c1 => ?_) (fun c1 => absurd (bz_0.mpr htag) c1)
          refine aw_iload_n dX1_takeItem_42 0 rfl ?_
          refine aw_bipush (v := 8) dX1_takeItem_43 (by decide) ?_
          refine aw_icmp_eqN (B p) 8 60 dX1_takeItem_45 (by decide) rfl rfl (by omega) (by omega) (fun c2 => absurd c2 (by omega)) (fun c2 => ?_)
          refine aw_iload_n dX1_takeItem_48 0 rfl ?_
          refine aw_bipush (v := 9) dX1_takeItem_49 (by decide) ?_
          refine aw_icmp_eqN (B p) 9 60 dX1_takeItem_51 (by decide) rfl rfl (by omega) (by omega) (fun c3 => absurd c3 (by omega)) (fun c3 => ?_)
          refine aw_aload_n dX1_takeItem_54 1 rfl ?_
          refine aw_iload_n dX1_takeItem_55 3 rfl ?_
          refine aw_callVi [.int (nI p)] [] (sp_X1_failAt (d := d - 1) (nI p) hS.1) dX1_takeItem_56 ml_X1_49 im_X1_failAt (hS.1.s 8 (by decide)) (hS.1.n 8 (by decide)) rfl rfl (dl1 (d := d) (by omega)) rfl rfl (Nat.le_of_ble_eq_true rfl) rfl rfl (Nat.zero_le _) (Nat.zero_le _) ?_
          refine aw_zret dX1_takeItem_59 rfl rfl (Nat.zero_le _) (Nat.zero_le _) ?_
          exact ⟨rfl, hC0.1.i 3 (nI p), mI_stI_v _ _ _ _⟩
  · rw [if_neg cl]
    refine aw_aload_n dX1_takeItem_0 0 rfl ?_
    refine aw_aload_n dX1_takeItem_1 1 rfl ?_
    refine aw_putR dX1_takeItem_2 fl_X1_31 rfl (Or.inl rfl) (hT.s 8 (by decide)) (hT.n 8 (by decide)) ?_
    refine aw_aload_n dX1_takeItem_5 0 rfl ?_
    refine aw_iload_n dX1_takeItem_6 2 rfl ?_
    refine aw_putI dX1_takeItem_7 fl_X1_21 (Or.inl rfl) (hT.s 8 (by decide)) (hT.n 8 (by decide)) ?_
    refine aw_aload_n dX1_takeItem_10 0 rfl ?_
    refine aw_iconst (v := -1) dX1_takeItem_11 (by decide) ?_
    refine aw_putI dX1_takeItem_12 fl_X1_24 (Or.inl rfl) (hT.s 8 (by decide)) (hT.n 8 (by decide)) ?_
    refine aw_aload_n dX1_takeItem_15 0 rfl ?_
    refine aw_iconst (v := 0) dX1_takeItem_16 (by decide) ?_
    refine aw_putI dX1_takeItem_17 fl_X1_17 (Or.inl rfl) (hT.s 8 (by decide)) (hT.n 8 (by decide)) ?_
    refine aw_aload_n dX1_takeItem_20 0 rfl ?_
    refine aw_getR (b := so) dX1_takeItem_21 fl_X1_31 rfl (hS.1.s 8 (by decide)) (hS.1.n 8 (by decide)) hS.2.1 ?_
    refine aw_iload_n dX1_takeItem_24 2 rfl ?_
    refine aw_callVi [.int (nI p)] [] (sp_atn (d := d - 1) hS cl (by omega)) dX1_takeItem_25 ml_X1_36 im_X3_at hS.2.2.1.1 hS.2.2.1.n0 rfl rfl (dl1 (d := d) (by omega)) rfl rfl (Nat.le_of_ble_eq_true rfl) rfl rfl (Nat.zero_le _) (Nat.zero_le _) ?_
    refine aw_istore_n [(3, .int (-1)), (0, .ref 8), (1, .ref so), (2, .int (nI p))] dX1_takeItem_28 (Nat.le_of_ble_eq_true rfl) rfl ?_
    refine aw_iload_n dX1_takeItem_29 0 rfl ?_
    refine aw_callSi [.int (-1)] [] (sp_X1_isArrayTag (d := d - 1) (by omega) (-1)) dX1_takeItem_30 ml_X1_42 sm_X1_isArrayTag rfl (dl1 (d := d) (by omega)) rfl rfl (Nat.le_of_ble_eq_true rfl) rfl rfl (Nat.zero_le _) (Nat.zero_le _) ?_
    refine aw_if_eq 42 dX1_takeItem_33 (by decide) (fun c1 => ?_) (fun c1 => absurd rfl c1)
    refine aw_iload_n dX1_takeItem_42 0 rfl ?_
    refine aw_bipush (v := 8) dX1_takeItem_43 (by decide) ?_
    refine aw_icmp_eq 60 dX1_takeItem_45 (by decide) (fun c2 => absurd c2 (by decide)) (fun c2 => ?_)
    refine aw_iload_n dX1_takeItem_48 0 rfl ?_
    refine aw_bipush (v := 9) dX1_takeItem_49 (by decide) ?_
    refine aw_icmp_eq 60 dX1_takeItem_51 (by decide) (fun c3 => absurd c3 (by decide)) (fun c3 => ?_)
    refine aw_aload_n dX1_takeItem_54 1 rfl ?_
    refine aw_iload_n dX1_takeItem_55 3 rfl ?_
    refine aw_callVi [.int (nI p)] [] (sp_X1_failAt (d := d - 1) (nI p) hS.1) dX1_takeItem_56 ml_X1_49 im_X1_failAt (hS.1.s 8 (by decide)) (hS.1.n 8 (by decide)) rfl rfl (dl1 (d := d) (by omega)) rfl rfl (Nat.le_of_ble_eq_true rfl) rfl rfl (Nat.zero_le _) (Nat.zero_le _) ?_
    refine aw_zret dX1_takeItem_59 rfl rfl (Nat.zero_le _) (Nat.zero_le _) ?_
    exact ⟨rfl, hC0.1.i 3 (nI p), mI_stI_v _ _ _ _⟩
