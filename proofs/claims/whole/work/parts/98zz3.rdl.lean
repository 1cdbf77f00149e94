-- THE CLASS READS NUMBERS, STEPS, WORDS, BEADS, LINKS
theorem wd_w : ∀ k, k < 8 → xsF 3 k = .int (nI (wdK k)) := by decide
theorem wd_p : ∀ k, k < 8 → 0 < wdK k ∧ wdK k ≤ 8 := by decide
theorem and127 {b : Nat} : nI b &&& 127 = nI (b % 128) := by
  show nI b &&& nI 127 = _
  rw [nx_and, show b &&& 127 = b % 128 from Nat.and_two_pow_sub_one_eq_mod b 7]
theorem nI_z {b : Nat} (h : b < 2 ^ 31) : nI b = 0 ↔ b = 0 := ⟨fun z => nI_inj h (by decide) z, fun z => by rw [z]; rfl⟩
theorem nI_l0 {b : Nat} (h : b < 2 ^ 31) : nI b ≤ 0 ↔ b = 0 := by
  have := E32 (n := b) (m := 0) h (by decide)
  rw [show (0 : Int32) = nI 0 from rfl, this]
  omega
theorem sp_tn {d : Nat} (hd : 3 ≤ d) {M : xM} {so N : Nat} {B : Nat → Nat} {L : Nat} {k p : Nat} (hS : RdS M so N B L) (hp : mI M 8 2 = nI p) (hpl : p ≤ L) (hk : k < 8) : Sp (fX1_takeNumber d) [.ref 8, .int (nI k)] M (PL M (pNum B L k p)) := by
  refine Sp.of pn_X1 (Nat.le_of_ble_eq_true rfl) (fun h => Bool.noConfusion h) ?_
  have hL1 := hS.2.2.2.1
  have hL2 := hS.2.2.2.2.1
  obtain ⟨w1, w2⟩ := wd_p k hk
  unfold pNum
  by_cases c6 : k < 6
  · have ew : wid2 k = wdK k := if_pos c6
    rw [ew]
    by_cases cl : p + (wdK k) ≤ L
    · rw [if_pos cl]
      by_cases k2 : k = 2
      · have en : numI B k p = sgB B p (wdK k) &&& 65535 := if_pos k2
        have ev : numV B k p = (if sX0_fits (nI k) (numI B k p) = true then some (numI B k p) else none) := if_pos c6
        rw [ev, en]
        cases hf : sX0_fits (nI k) (sgB B p (wdK k) &&& 65535) with
        | false =>
          rw [if_neg (by decide)]
          refine aw_iload_n dX1_takeNumber_0 1 rfl ?_
          refine aw_bipush (v := 6) dX1_takeNumber_1 (by decide) ?_
          refine aw_icmp_ltN k 6 10 dX1_takeNumber_3 (by decide) rfl rfl (by omega) (by omega) (fun c1 => ?_) (fun c1 => absurd (by omega) c1)
          refine aw_iconst (v := 0) dX1_takeNumber_10 (by decide) ?_
          refine aw_istore_n [(2, .int 0), (0, .ref 8), (1, .int (nI k))] dX1_takeNumber_11 (Nat.le_of_ble_eq_true rfl) rfl ?_
          refine aw_iload_n dX1_takeNumber_12 0 rfl ?_
          refine aw_if_eq 25 dX1_takeNumber_13 (by decide) (fun c2 => ?_) (fun c2 => absurd rfl c2)
          refine aw_aload_n dX1_takeNumber_25 1 rfl ?_
          refine aw_getI dX1_takeNumber_26 fl_X1_21 (hS.1.s 8 (by decide)) (hS.1.n 8 (by decide)) ?_
          refine aw_topE hp ?_
          refine aw_istore_n [(3, .int (nI p)), (2, .int 0), (0, .ref 8), (1, .int (nI k))] dX1_takeNumber_29 (Nat.le_of_ble_eq_true rfl) rfl ?_
          refine aw_iload_n dX1_takeNumber_30 0 rfl ?_
          refine aw_gets (j := 3) dX1_takeNumber_31 (by decide) fs_X1_121 ?_
          refine aw_iload_n dX1_takeNumber_34 3 rfl ?_
          refine aw_siald (v := nI (wdK k)) (j := 3) dX1_takeNumber_35 (by decide) rfl (vp_in_nI (by show k < 8; omega) (by decide)) (by rw [nI_clamp (by omega)]; exact wd_w k hk) ?_
          refine aw_iaddN p (wdK k) dX1_takeNumber_36 rfl rfl ?_
          refine aw_istore [(4, .int (nI (p + (wdK k)))), (3, .int (nI p)), (2, .int 0), (0, .ref 8), (1, .int (nI k))] dX1_takeNumber_37 (Nat.le_of_ble_eq_true rfl) rfl ?_
          refine aw_iload dX1_takeNumber_39 0 rfl ?_
          refine aw_aload_n dX1_takeNumber_41 3 rfl ?_
          refine aw_getR (b := so) dX1_takeNumber_42 fl_X1_31 rfl (hS.1.s 8 (by decide)) (hS.1.n 8 (by decide)) hS.2.1 ?_
          refine aw_getI dX1_takeNumber_45 fl_X1_125 hS.2.2.1.1 hS.2.2.1.n0 ?_
          refine aw_topE hS.2.2.2.2.2.2.1 ?_
          refine aw_icmp_leN (p + (wdK k)) L 60 dX1_takeNumber_48 (by decide) rfl rfl (by omega) (by omega) (fun c3 => ?_) (fun c3 => absurd (by omega) c3)
          refine aw_aload_n dX1_takeNumber_60 3 rfl ?_
          refine aw_getR (b := so) dX1_takeNumber_61 fl_X1_31 rfl (hS.1.s 8 (by decide)) (hS.1.n 8 (by decide)) hS.2.1 ?_
          refine aw_aload_n dX1_takeNumber_64 3 rfl ?_
          refine aw_getI dX1_takeNumber_65 fl_X1_21 (hS.1.s 8 (by decide)) (hS.1.n 8 (by decide)) ?_
          refine aw_topE hp ?_
          refine aw_callVi [.int (nI p)] [] (sp_at (d := d - 1) hS (by omega)) dX1_takeNumber_68 ml_X1_36 im_X3_at hS.2.2.1.1 hS.2.2.1.n0 rfl rfl (dl1 (d := d) (by omega)) rfl rfl (Nat.le_of_ble_eq_true rfl) rfl rfl (Nat.zero_le _) (Nat.zero_le _) ?_
          refine aw_istore [(5, .int (nI (B p))), (4, .int (nI (p + (wdK k)))), (3, .int (nI p)), (2, .int 0), (0, .ref 8), (1, .int (nI k))] dX1_takeNumber_71 (Nat.le_of_ble_eq_true rfl) rfl ?_
          refine aw_aload_n dX1_takeNumber_73 4 rfl ?_
          refine aw_iload_n dX1_takeNumber_74 2 rfl ?_
          refine aw_iload dX1_takeNumber_75 1 rfl ?_
          refine aw_callVl [.int (nI p), .int (nI (p + (wdK k)))] [] (sp_sg (d := d - 1) (a := p) (n := wdK k) (by omega) hS (by omega) (by omega)) dX1_takeNumber_77 ml_X1_126 im_X1_signedAt (hS.1.s 8 (by decide)) (hS.1.n 8 (by decide)) rfl rfl (dl1 (d := d) (by omega)) rfl rfl (Nat.le_of_ble_eq_true rfl) rfl rfl (Nat.zero_le _) (Nat.zero_le _) ?_
          refine aw_lstore [(6, .long (sgB B p (wdK k))), (5, .int (nI (B p))), (4, .int (nI (p + (wdK k)))), (3, .int (nI p)), (2, .int 0), (0, .ref 8), (1, .int (nI k))] dX1_takeNumber_80 (Nat.le_of_ble_eq_true rfl) rfl ?_
          refine aw_iload_n dX1_takeNumber_82 6 rfl ?_
          refine aw_iconst (v := 2) dX1_takeNumber_83 (by decide) ?_
          refine aw_icmp_neN k 2 95 dX1_takeNumber_84 (by decide) rfl rfl (by omega) (by omega) (fun c4 => absurd (by omega) c4) (fun c4 => ?_)
          refine aw_lload dX1_takeNumber_87 0 rfl ?_
          refine aw_ldc2 dX1_takeNumber_89 kc_X1_130 ?_
          refine aw_land dX1_takeNumber_92 ?_
          refine aw_lstore [(6, .long ((sgB B p (wdK k)) &&& 65535)), (5, .int (nI (B p))), (4, .int (nI (p + (wdK k)))), (3, .int (nI p)), (2, .int 0), (0, .ref 8), (1, .int (nI k))] dX1_takeNumber_93 (Nat.le_of_ble_eq_true rfl) rfl ?_
          refine aw_iload_n dX1_takeNumber_95 4 rfl ?_
          refine aw_if_eq 113 dX1_takeNumber_96 (by decide) (fun c5 => ?_) (fun c5 => absurd rfl c5)
          refine aw_iload_n dX1_takeNumber_113 6 rfl ?_
          refine aw_lload dX1_takeNumber_114 0 rfl ?_
          refine aw_callSi [.int (nI k), .long ((sgB B p (wdK k)) &&& 65535)] [] (sp_X0_fits (d := d - 1) (by omega) (nI k) ((sgB B p (wdK k)) &&& 65535) ) dX1_takeNumber_116 ml_X1_115 sm_X0_fits rfl (dl1 (d := d) (by omega)) rfl rfl (Nat.le_of_ble_eq_true rfl) rfl rfl (Nat.zero_le _) (Nat.zero_le _) ?_
          refine aw_if_ne 131 dX1_takeNumber_119 (by decide) (fun c6 => absurd (bz_0.mpr hf) c6) (fun c6 => ?_)
          refine aw_aload_n dX1_takeNumber_122 5 rfl ?_
          refine aw_aload_n dX1_takeNumber_123 5 rfl ?_
          refine aw_getI dX1_takeNumber_124 fl_X1_21 (hS.1.s 8 (by decide)) (hS.1.n 8 (by decide)) ?_
          refine aw_topE hp ?_
          refine aw_callVi [.int (nI p)] [] (sp_X1_failAt (d := d - 1) (nI p) hS.1) dX1_takeNumber_127 ml_X1_49 im_X1_failAt (hS.1.s 8 (by decide)) (hS.1.n 8 (by decide)) rfl rfl (dl1 (d := d) (by omega)) rfl rfl (Nat.le_of_ble_eq_true rfl) rfl rfl (Nat.zero_le _) (Nat.zero_le _) ?_
          refine aw_zret dX1_takeNumber_130 rfl rfl (Nat.zero_le _) (Nat.zero_le _) ?_
          exact ⟨rfl, Er_f M p⟩
        | true =>
          rw [if_pos rfl]
          refine aw_iload_n dX1_takeNumber_0 1 rfl ?_
          refine aw_bipush (v := 6) dX1_takeNumber_1 (by decide) ?_
          refine aw_icmp_ltN k 6 10 dX1_takeNumber_3 (by decide) rfl rfl (by omega) (by omega) (fun c1 => ?_) (fun c1 => absurd (by omega) c1)
          refine aw_iconst (v := 0) dX1_takeNumber_10 (by decide) ?_
          refine aw_istore_n [(2, .int 0), (0, .ref 8), (1, .int (nI k))] dX1_takeNumber_11 (Nat.le_of_ble_eq_true rfl) rfl ?_
          refine aw_iload_n dX1_takeNumber_12 0 rfl ?_
          refine aw_if_eq 25 dX1_takeNumber_13 (by decide) (fun c2 => ?_) (fun c2 => absurd rfl c2)
          refine aw_aload_n dX1_takeNumber_25 1 rfl ?_
          refine aw_getI dX1_takeNumber_26 fl_X1_21 (hS.1.s 8 (by decide)) (hS.1.n 8 (by decide)) ?_
          refine aw_topE hp ?_
          refine aw_istore_n [(3, .int (nI p)), (2, .int 0), (0, .ref 8), (1, .int (nI k))] dX1_takeNumber_29 (Nat.le_of_ble_eq_true rfl) rfl ?_
          refine aw_iload_n dX1_takeNumber_30 0 rfl ?_
          refine aw_gets (j := 3) dX1_takeNumber_31 (by decide) fs_X1_121 ?_
          refine aw_iload_n dX1_takeNumber_34 3 rfl ?_
          refine aw_siald (v := nI (wdK k)) (j := 3) dX1_takeNumber_35 (by decide) rfl (vp_in_nI (by show k < 8; omega) (by decide)) (by rw [nI_clamp (by omega)]; exact wd_w k hk) ?_
          refine aw_iaddN p (wdK k) dX1_takeNumber_36 rfl rfl ?_
          refine aw_istore [(4, .int (nI (p + (wdK k)))), (3, .int (nI p)), (2, .int 0), (0, .ref 8), (1, .int (nI k))] dX1_takeNumber_37 (Nat.le_of_ble_eq_true rfl) rfl ?_
          refine aw_iload dX1_takeNumber_39 0 rfl ?_
          refine aw_aload_n dX1_takeNumber_41 3 rfl ?_
          refine aw_getR (b := so) dX1_takeNumber_42 fl_X1_31 rfl (hS.1.s 8 (by decide)) (hS.1.n 8 (by decide)) hS.2.1 ?_
          refine aw_getI dX1_takeNumber_45 fl_X1_125 hS.2.2.1.1 hS.2.2.1.n0 ?_
          refine aw_topE hS.2.2.2.2.2.2.1 ?_
          refine aw_icmp_leN (p + (wdK k)) L 60 dX1_takeNumber_48 (by decide) rfl rfl (by omega) (by omega) (fun c3 => ?_) (fun c3 => absurd (by omega) c3)
          refine aw_aload_n dX1_takeNumber_60 3 rfl ?_
          refine aw_getR (b := so) dX1_takeNumber_61 fl_X1_31 rfl (hS.1.s 8 (by decide)) (hS.1.n 8 (by decide)) hS.2.1 ?_
          refine aw_aload_n dX1_takeNumber_64 3 rfl ?_
          refine aw_getI dX1_takeNumber_65 fl_X1_21 (hS.1.s 8 (by decide)) (hS.1.n 8 (by decide)) ?_
          refine aw_topE hp ?_
          refine aw_callVi [.int (nI p)] [] (sp_at (d := d - 1) hS (by omega)) dX1_takeNumber_68 ml_X1_36 im_X3_at hS.2.2.1.1 hS.2.2.1.n0 rfl rfl (dl1 (d := d) (by omega)) rfl rfl (Nat.le_of_ble_eq_true rfl) rfl rfl (Nat.zero_le _) (Nat.zero_le _) ?_
          refine aw_istore [(5, .int (nI (B p))), (4, .int (nI (p + (wdK k)))), (3, .int (nI p)), (2, .int 0), (0, .ref 8), (1, .int (nI k))] dX1_takeNumber_71 (Nat.le_of_ble_eq_true rfl) rfl ?_
          refine aw_aload_n dX1_takeNumber_73 4 rfl ?_
          refine aw_iload_n dX1_takeNumber_74 2 rfl ?_
          refine aw_iload dX1_takeNumber_75 1 rfl ?_
          refine aw_callVl [.int (nI p), .int (nI (p + (wdK k)))] [] (sp_sg (d := d - 1) (a := p) (n := wdK k) (by omega) hS (by omega) (by omega)) dX1_takeNumber_77 ml_X1_126 im_X1_signedAt (hS.1.s 8 (by decide)) (hS.1.n 8 (by decide)) rfl rfl (dl1 (d := d) (by omega)) rfl rfl (Nat.le_of_ble_eq_true rfl) rfl rfl (Nat.zero_le _) (Nat.zero_le _) ?_
          refine aw_lstore [(6, .long (sgB B p (wdK k))), (5, .int (nI (B p))), (4, .int (nI (p + (wdK k)))), (3, .int (nI p)), (2, .int 0), (0, .ref 8), (1, .int (nI k))] dX1_takeNumber_80 (Nat.le_of_ble_eq_true rfl) rfl ?_
          refine aw_iload_n dX1_takeNumber_82 6 rfl ?_
          refine aw_iconst (v := 2) dX1_takeNumber_83 (by decide) ?_
          refine aw_icmp_neN k 2 95 dX1_takeNumber_84 (by decide) rfl rfl (by omega) (by omega) (fun c4 => absurd (by omega) c4) (fun c4 => ?_)
          refine aw_lload dX1_takeNumber_87 0 rfl ?_
          refine aw_ldc2 dX1_takeNumber_89 kc_X1_130 ?_
          refine aw_land dX1_takeNumber_92 ?_
          refine aw_lstore [(6, .long ((sgB B p (wdK k)) &&& 65535)), (5, .int (nI (B p))), (4, .int (nI (p + (wdK k)))), (3, .int (nI p)), (2, .int 0), (0, .ref 8), (1, .int (nI k))] dX1_takeNumber_93 (Nat.le_of_ble_eq_true rfl) rfl ?_
          refine aw_iload_n dX1_takeNumber_95 4 rfl ?_
          refine aw_if_eq 113 dX1_takeNumber_96 (by decide) (fun c5 => ?_) (fun c5 => absurd rfl c5)
          refine aw_iload_n dX1_takeNumber_113 6 rfl ?_
          refine aw_lload dX1_takeNumber_114 0 rfl ?_
          refine aw_callSi [.int (nI k), .long ((sgB B p (wdK k)) &&& 65535)] [] (sp_X0_fits (d := d - 1) (by omega) (nI k) ((sgB B p (wdK k)) &&& 65535) ) dX1_takeNumber_116 ml_X1_115 sm_X0_fits rfl (dl1 (d := d) (by omega)) rfl rfl (Nat.le_of_ble_eq_true rfl) rfl rfl (Nat.zero_le _) (Nat.zero_le _) ?_
          refine aw_if_ne 131 dX1_takeNumber_119 (by decide) (fun c6 => ?_) (fun c6 => absurd c6 (bz_n0.mpr hf))
          refine aw_aload_n dX1_takeNumber_131 5 rfl ?_
          refine aw_iload_n dX1_takeNumber_132 4 rfl ?_
          refine aw_if_eq 147 dX1_takeNumber_133 (by decide) (fun c7 => ?_) (fun c7 => absurd rfl c7)
          refine aw_lload dX1_takeNumber_147 0 rfl ?_
          refine aw_putL dX1_takeNumber_149 fl_X1_27 (Or.inl rfl) (hS.1.s 8 (by decide)) (hS.1.n 8 (by decide)) ?_
          refine aw_aload_n dX1_takeNumber_152 5 rfl ?_
          refine aw_iload dX1_takeNumber_153 2 rfl ?_
          refine aw_putI dX1_takeNumber_155 fl_X1_21 (Or.inl rfl) ((hS.l 5 ((sgB B p (wdK k)) &&& 65535)).1.s 8 (by decide)) ((hS.l 5 ((sgB B p (wdK k)) &&& 65535)).1.n 8 (by decide)) ?_
          refine aw_iconst (v := 1) dX1_takeNumber_158 (by decide) ?_
          refine aw_zret dX1_takeNumber_159 rfl rfl (Nat.zero_le _) (Nat.zero_le _) ?_
          exact ⟨rfl, rfl⟩
      · have en : numI B k p = sgB B p (wdK k) := if_neg k2
        have ev : numV B k p = (if sX0_fits (nI k) (numI B k p) = true then some (numI B k p) else none) := if_pos c6
        rw [ev, en]
        cases hf : sX0_fits (nI k) (sgB B p (wdK k)) with
        | false =>
          rw [if_neg (by decide)]
          refine aw_iload_n dX1_takeNumber_0 1 rfl ?_
          refine aw_bipush (v := 6) dX1_takeNumber_1 (by decide) ?_
          refine aw_icmp_ltN k 6 10 dX1_takeNumber_3 (by decide) rfl rfl (by omega) (by omega) (fun c1 => ?_) (fun c1 => absurd (by omega) c1)
          refine aw_iconst (v := 0) dX1_takeNumber_10 (by decide) ?_
          refine aw_istore_n [(2, .int 0), (0, .ref 8), (1, .int (nI k))] dX1_takeNumber_11 (Nat.le_of_ble_eq_true rfl) rfl ?_
          refine aw_iload_n dX1_takeNumber_12 0 rfl ?_
          refine aw_if_eq 25 dX1_takeNumber_13 (by decide) (fun c2 => ?_) (fun c2 => absurd rfl c2)
          refine aw_aload_n dX1_takeNumber_25 1 rfl ?_
          refine aw_getI dX1_takeNumber_26 fl_X1_21 (hS.1.s 8 (by decide)) (hS.1.n 8 (by decide)) ?_
          refine aw_topE hp ?_
          refine aw_istore_n [(3, .int (nI p)), (2, .int 0), (0, .ref 8), (1, .int (nI k))] dX1_takeNumber_29 (Nat.le_of_ble_eq_true rfl) rfl ?_
          refine aw_iload_n dX1_takeNumber_30 0 rfl ?_
          refine aw_gets (j := 3) dX1_takeNumber_31 (by decide) fs_X1_121 ?_
          refine aw_iload_n dX1_takeNumber_34 3 rfl ?_
          refine aw_siald (v := nI (wdK k)) (j := 3) dX1_takeNumber_35 (by decide) rfl (vp_in_nI (by show k < 8; omega) (by decide)) (by rw [nI_clamp (by omega)]; exact wd_w k hk) ?_
          refine aw_iaddN p (wdK k) dX1_takeNumber_36 rfl rfl ?_
          refine aw_istore [(4, .int (nI (p + (wdK k)))), (3, .int (nI p)), (2, .int 0), (0, .ref 8), (1, .int (nI k))] dX1_takeNumber_37 (Nat.le_of_ble_eq_true rfl) rfl ?_
          refine aw_iload dX1_takeNumber_39 0 rfl ?_
          refine aw_aload_n dX1_takeNumber_41 3 rfl ?_
          refine aw_getR (b := so) dX1_takeNumber_42 fl_X1_31 rfl (hS.1.s 8 (by decide)) (hS.1.n 8 (by decide)) hS.2.1 ?_
          refine aw_getI dX1_takeNumber_45 fl_X1_125 hS.2.2.1.1 hS.2.2.1.n0 ?_
          refine aw_topE hS.2.2.2.2.2.2.1 ?_
          refine aw_icmp_leN (p + (wdK k)) L 60 dX1_takeNumber_48 (by decide) rfl rfl (by omega) (by omega) (fun c3 => ?_) (fun c3 => absurd (by omega) c3)
          refine aw_aload_n dX1_takeNumber_60 3 rfl ?_
          refine aw_getR (b := so) dX1_takeNumber_61 fl_X1_31 rfl (hS.1.s 8 (by decide)) (hS.1.n 8 (by decide)) hS.2.1 ?_
          refine aw_aload_n dX1_takeNumber_64 3 rfl ?_
          refine aw_getI dX1_takeNumber_65 fl_X1_21 (hS.1.s 8 (by decide)) (hS.1.n 8 (by decide)) ?_
          refine aw_topE hp ?_
          refine aw_callVi [.int (nI p)] [] (sp_at (d := d - 1) hS (by omega)) dX1_takeNumber_68 ml_X1_36 im_X3_at hS.2.2.1.1 hS.2.2.1.n0 rfl rfl (dl1 (d := d) (by omega)) rfl rfl (Nat.le_of_ble_eq_true rfl) rfl rfl (Nat.zero_le _) (Nat.zero_le _) ?_
          refine aw_istore [(5, .int (nI (B p))), (4, .int (nI (p + (wdK k)))), (3, .int (nI p)), (2, .int 0), (0, .ref 8), (1, .int (nI k))] dX1_takeNumber_71 (Nat.le_of_ble_eq_true rfl) rfl ?_
          refine aw_aload_n dX1_takeNumber_73 4 rfl ?_
          refine aw_iload_n dX1_takeNumber_74 2 rfl ?_
          refine aw_iload dX1_takeNumber_75 1 rfl ?_
          refine aw_callVl [.int (nI p), .int (nI (p + (wdK k)))] [] (sp_sg (d := d - 1) (a := p) (n := wdK k) (by omega) hS (by omega) (by omega)) dX1_takeNumber_77 ml_X1_126 im_X1_signedAt (hS.1.s 8 (by decide)) (hS.1.n 8 (by decide)) rfl rfl (dl1 (d := d) (by omega)) rfl rfl (Nat.le_of_ble_eq_true rfl) rfl rfl (Nat.zero_le _) (Nat.zero_le _) ?_
          refine aw_lstore [(6, .long (sgB B p (wdK k))), (5, .int (nI (B p))), (4, .int (nI (p + (wdK k)))), (3, .int (nI p)), (2, .int 0), (0, .ref 8), (1, .int (nI k))] dX1_takeNumber_80 (Nat.le_of_ble_eq_true rfl) rfl ?_
          refine aw_iload_n dX1_takeNumber_82 6 rfl ?_
          refine aw_iconst (v := 2) dX1_takeNumber_83 (by decide) ?_
          refine aw_icmp_neN k 2 95 dX1_takeNumber_84 (by decide) rfl rfl (by omega) (by omega) (fun c4 => ?_) (fun c4 => absurd c4 (by omega))
          refine aw_iload_n dX1_takeNumber_95 4 rfl ?_
          refine aw_if_eq 113 dX1_takeNumber_96 (by decide) (fun c5 => ?_) (fun c5 => absurd rfl c5)
          refine aw_iload_n dX1_takeNumber_113 6 rfl ?_
          refine aw_lload dX1_takeNumber_114 0 rfl ?_
          refine aw_callSi [.int (nI k), .long (sgB B p (wdK k))] [] (sp_X0_fits (d := d - 1) (by omega) (nI k) (sgB B p (wdK k)) ) dX1_takeNumber_116 ml_X1_115 sm_X0_fits rfl (dl1 (d := d) (by omega)) rfl rfl (Nat.le_of_ble_eq_true rfl) rfl rfl (Nat.zero_le _) (Nat.zero_le _) ?_
          refine aw_if_ne 131 dX1_takeNumber_119 (by decide) (fun c6 => absurd (bz_0.mpr hf) c6) (fun c6 => ?_)
          refine aw_aload_n dX1_takeNumber_122 5 rfl ?_
          refine aw_aload_n dX1_takeNumber_123 5 rfl ?_
          refine aw_getI dX1_takeNumber_124 fl_X1_21 (hS.1.s 8 (by decide)) (hS.1.n 8 (by decide)) ?_
          refine aw_topE hp ?_
          refine aw_callVi [.int (nI p)] [] (sp_X1_failAt (d := d - 1) (nI p) hS.1) dX1_takeNumber_127 ml_X1_49 im_X1_failAt (hS.1.s 8 (by decide)) (hS.1.n 8 (by decide)) rfl rfl (dl1 (d := d) (by omega)) rfl rfl (Nat.le_of_ble_eq_true rfl) rfl rfl (Nat.zero_le _) (Nat.zero_le _) ?_
          refine aw_zret dX1_takeNumber_130 rfl rfl (Nat.zero_le _) (Nat.zero_le _) ?_
          exact ⟨rfl, Er_f M p⟩
        | true =>
          rw [if_pos rfl]
          refine aw_iload_n dX1_takeNumber_0 1 rfl ?_
          refine aw_bipush (v := 6) dX1_takeNumber_1 (by decide) ?_
          refine aw_icmp_ltN k 6 10 dX1_takeNumber_3 (by decide) rfl rfl (by omega) (by omega) (fun c1 => ?_) (fun c1 => absurd (by omega) c1)
          refine aw_iconst (v := 0) dX1_takeNumber_10 (by decide) ?_
          refine aw_istore_n [(2, .int 0), (0, .ref 8), (1, .int (nI k))] dX1_takeNumber_11 (Nat.le_of_ble_eq_true rfl) rfl ?_
          refine aw_iload_n dX1_takeNumber_12 0 rfl ?_
          refine aw_if_eq 25 dX1_takeNumber_13 (by decide) (fun c2 => ?_) (fun c2 => absurd rfl c2)
          refine aw_aload_n dX1_takeNumber_25 1 rfl ?_
          refine aw_getI dX1_takeNumber_26 fl_X1_21 (hS.1.s 8 (by decide)) (hS.1.n 8 (by decide)) ?_
          refine aw_topE hp ?_
          refine aw_istore_n [(3, .int (nI p)), (2, .int 0), (0, .ref 8), (1, .int (nI k))] dX1_takeNumber_29 (Nat.le_of_ble_eq_true rfl) rfl ?_
          refine aw_iload_n dX1_takeNumber_30 0 rfl ?_
          refine aw_gets (j := 3) dX1_takeNumber_31 (by decide) fs_X1_121 ?_
          refine aw_iload_n dX1_takeNumber_34 3 rfl ?_
          refine aw_siald (v := nI (wdK k)) (j := 3) dX1_takeNumber_35 (by decide) rfl (vp_in_nI (by show k < 8; omega) (by decide)) (by rw [nI_clamp (by omega)]; exact wd_w k hk) ?_
          refine aw_iaddN p (wdK k) dX1_takeNumber_36 rfl rfl ?_
          refine aw_istore [(4, .int (nI (p + (wdK k)))), (3, .int (nI p)), (2, .int 0), (0, .ref 8), (1, .int (nI k))] dX1_takeNumber_37 (Nat.le_of_ble_eq_true rfl) rfl ?_
          refine aw_iload dX1_takeNumber_39 0 rfl ?_
          refine aw_aload_n dX1_takeNumber_41 3 rfl ?_
          refine aw_getR (b := so) dX1_takeNumber_42 fl_X1_31 rfl (hS.1.s 8 (by decide)) (hS.1.n 8 (by decide)) hS.2.1 ?_
          refine aw_getI dX1_takeNumber_45 fl_X1_125 hS.2.2.1.1 hS.2.2.1.n0 ?_
          refine aw_topE hS.2.2.2.2.2.2.1 ?_
          refine aw_icmp_leN (p + (wdK k)) L 60 dX1_takeNumber_48 (by decide) rfl rfl (by omega) (by omega) (fun c3 => ?_) (fun c3 => absurd (by omega) c3)
          refine aw_aload_n dX1_takeNumber_60 3 rfl ?_
          refine aw_getR (b := so) dX1_takeNumber_61 fl_X1_31 rfl (hS.1.s 8 (by decide)) (hS.1.n 8 (by decide)) hS.2.1 ?_
          refine aw_aload_n dX1_takeNumber_64 3 rfl ?_
          refine aw_getI dX1_takeNumber_65 fl_X1_21 (hS.1.s 8 (by decide)) (hS.1.n 8 (by decide)) ?_
          refine aw_topE hp ?_
          refine aw_callVi [.int (nI p)] [] (sp_at (d := d - 1) hS (by omega)) dX1_takeNumber_68 ml_X1_36 im_X3_at hS.2.2.1.1 hS.2.2.1.n0 rfl rfl (dl1 (d := d) (by omega)) rfl rfl (Nat.le_of_ble_eq_true rfl) rfl rfl (Nat.zero_le _) (Nat.zero_le _) ?_
          refine aw_istore [(5, .int (nI (B p))), (4, .int (nI (p + (wdK k)))), (3, .int (nI p)), (2, .int 0), (0, .ref 8), (1, .int (nI k))] dX1_takeNumber_71 (Nat.le_of_ble_eq_true rfl) rfl ?_
          refine aw_aload_n dX1_takeNumber_73 4 rfl ?_
          refine aw_iload_n dX1_takeNumber_74 2 rfl ?_
          refine aw_iload dX1_takeNumber_75 1 rfl ?_
          refine aw_callVl [.int (nI p), .int (nI (p + (wdK k)))] [] (sp_sg (d := d - 1) (a := p) (n := wdK k) (by omega) hS (by omega) (by omega)) dX1_takeNumber_77 ml_X1_126 im_X1_signedAt (hS.1.s 8 (by decide)) (hS.1.n 8 (by decide)) rfl rfl (dl1 (d := d) (by omega)) rfl rfl (Nat.le_of_ble_eq_true rfl) rfl rfl (Nat.zero_le _) (Nat.zero_le _) ?_
          refine aw_lstore [(6, .long (sgB B p (wdK k))), (5, .int (nI (B p))), (4, .int (nI (p + (wdK k)))), (3, .int (nI p)), (2, .int 0), (0, .ref 8), (1, .int (nI k))] dX1_takeNumber_80 (Nat.le_of_ble_eq_true rfl) rfl ?_
          refine aw_iload_n dX1_takeNumber_82 6 rfl ?_
          refine aw_iconst (v := 2) dX1_takeNumber_83 (by decide) ?_
          refine aw_icmp_neN k 2 95 dX1_takeNumber_84 (by decide) rfl rfl (by omega) (by omega) (fun c4 => ?_) (fun c4 => absurd c4 (by omega))
          refine aw_iload_n dX1_takeNumber_95 4 rfl ?_
          refine aw_if_eq 113 dX1_takeNumber_96 (by decide) (fun c5 => ?_) (fun c5 => absurd rfl c5)
          refine aw_iload_n dX1_takeNumber_113 6 rfl ?_
          refine aw_lload dX1_takeNumber_114 0 rfl ?_
          refine aw_callSi [.int (nI k), .long (sgB B p (wdK k))] [] (sp_X0_fits (d := d - 1) (by omega) (nI k) (sgB B p (wdK k)) ) dX1_takeNumber_116 ml_X1_115 sm_X0_fits rfl (dl1 (d := d) (by omega)) rfl rfl (Nat.le_of_ble_eq_true rfl) rfl rfl (Nat.zero_le _) (Nat.zero_le _) ?_
          refine aw_if_ne 131 dX1_takeNumber_119 (by decide) (fun c6 => ?_) (fun c6 => absurd c6 (bz_n0.mpr hf))
          refine aw_aload_n dX1_takeNumber_131 5 rfl ?_
          refine aw_iload_n dX1_takeNumber_132 4 rfl ?_
          refine aw_if_eq 147 dX1_takeNumber_133 (by decide) (fun c7 => ?_) (fun c7 => absurd rfl c7)
          refine aw_lload dX1_takeNumber_147 0 rfl ?_
          refine aw_putL dX1_takeNumber_149 fl_X1_27 (Or.inl rfl) (hS.1.s 8 (by decide)) (hS.1.n 8 (by decide)) ?_
          refine aw_aload_n dX1_takeNumber_152 5 rfl ?_
          refine aw_iload dX1_takeNumber_153 2 rfl ?_
          refine aw_putI dX1_takeNumber_155 fl_X1_21 (Or.inl rfl) ((hS.l 5 (sgB B p (wdK k))).1.s 8 (by decide)) ((hS.l 5 (sgB B p (wdK k))).1.n 8 (by decide)) ?_
          refine aw_iconst (v := 1) dX1_takeNumber_158 (by decide) ?_
          refine aw_zret dX1_takeNumber_159 rfl rfl (Nat.zero_le _) (Nat.zero_le _) ?_
          exact ⟨rfl, rfl⟩
    · rw [if_neg cl]
      refine aw_iload_n dX1_takeNumber_0 1 rfl ?_
      refine aw_bipush (v := 6) dX1_takeNumber_1 (by decide) ?_
      refine aw_icmp_ltN k 6 10 dX1_takeNumber_3 (by decide) rfl rfl (by omega) (by omega) (fun c1 => ?_) (fun c1 => absurd (by omega) c1)
      refine aw_iconst (v := 0) dX1_takeNumber_10 (by decide) ?_
      refine aw_istore_n [(2, .int 0), (0, .ref 8), (1, .int (nI k))] dX1_takeNumber_11 (Nat.le_of_ble_eq_true rfl) rfl ?_
      refine aw_iload_n dX1_takeNumber_12 0 rfl ?_
      refine aw_if_eq 25 dX1_takeNumber_13 (by decide) (fun c2 => ?_) (fun c2 => absurd rfl c2)
      refine aw_aload_n dX1_takeNumber_25 1 rfl ?_
      refine aw_getI dX1_takeNumber_26 fl_X1_21 (hS.1.s 8 (by decide)) (hS.1.n 8 (by decide)) ?_
      refine aw_topE hp ?_
      refine aw_istore_n [(3, .int (nI p)), (2, .int 0), (0, .ref 8), (1, .int (nI k))] dX1_takeNumber_29 (Nat.le_of_ble_eq_true rfl) rfl ?_
      refine aw_iload_n dX1_takeNumber_30 0 rfl ?_
      refine aw_gets (j := 3) dX1_takeNumber_31 (by decide) fs_X1_121 ?_
      refine aw_iload_n dX1_takeNumber_34 3 rfl ?_
      refine aw_siald (v := nI (wdK k)) (j := 3) dX1_takeNumber_35 (by decide) rfl (vp_in_nI (by show k < 8; omega) (by decide)) (by rw [nI_clamp (by omega)]; exact wd_w k hk) ?_
      refine aw_iaddN p (wdK k) dX1_takeNumber_36 rfl rfl ?_
      refine aw_istore [(4, .int (nI (p + (wdK k)))), (3, .int (nI p)), (2, .int 0), (0, .ref 8), (1, .int (nI k))] dX1_takeNumber_37 (Nat.le_of_ble_eq_true rfl) rfl ?_
      refine aw_iload dX1_takeNumber_39 0 rfl ?_
      refine aw_aload_n dX1_takeNumber_41 3 rfl ?_
      refine aw_getR (b := so) dX1_takeNumber_42 fl_X1_31 rfl (hS.1.s 8 (by decide)) (hS.1.n 8 (by decide)) hS.2.1 ?_
      refine aw_getI dX1_takeNumber_45 fl_X1_125 hS.2.2.1.1 hS.2.2.1.n0 ?_
      refine aw_topE hS.2.2.2.2.2.2.1 ?_
      refine aw_icmp_leN (p + (wdK k)) L 60 dX1_takeNumber_48 (by decide) rfl rfl (by omega) (by omega) (fun c3 => absurd c3 (by omega)) (fun c3 => ?_)
      refine aw_aload_n dX1_takeNumber_51 3 rfl ?_
      refine aw_aload_n dX1_takeNumber_52 3 rfl ?_
      refine aw_getI dX1_takeNumber_53 fl_X1_21 (hS.1.s 8 (by decide)) (hS.1.n 8 (by decide)) ?_
      refine aw_topE hp ?_
      refine aw_callVi [.int (nI p)] [] (sp_X1_failAt (d := d - 1) (nI p) hS.1) dX1_takeNumber_56 ml_X1_49 im_X1_failAt (hS.1.s 8 (by decide)) (hS.1.n 8 (by decide)) rfl rfl (dl1 (d := d) (by omega)) rfl rfl (Nat.le_of_ble_eq_true rfl) rfl rfl (Nat.zero_le _) (Nat.zero_le _) ?_
      refine aw_zret dX1_takeNumber_59 rfl rfl (Nat.zero_le _) (Nat.zero_le _) ?_
      exact ⟨rfl, Er_f M p⟩
  · have ew : wid2 k = wdK k + 1 := if_neg c6
    rw [ew]
    by_cases cl : p + (wdK k + 1) ≤ L
    · rw [if_pos cl]
      have ev : numV B k p = (if sX1_isScaled (nI k) (sgB B (p + 1) (wdK k)) (nI (B p)) = true then some (sX0_scaledBits (nI k) (sgB B (p + 1) (wdK k)) (nI (B p))) else none) := if_neg c6
      have hb := (hS.2.2.2.2.2.2.2 p (by omega)).2
      rw [ev]
      cases hf : sX1_isScaled (nI k) (sgB B (p + 1) (wdK k)) (nI (B p)) with
      | false =>
        rw [if_neg (by decide)]
        refine aw_iload_n dX1_takeNumber_0 1 rfl ?_
        refine aw_bipush (v := 6) dX1_takeNumber_1 (by decide) ?_
        refine aw_icmp_ltN k 6 10 dX1_takeNumber_3 (by decide) rfl rfl (by omega) (by omega) (fun c1 => absurd c1 (by omega)) (fun c1 => ?_)
        refine aw_iconst (v := 1) dX1_takeNumber_6 (by decide) ?_
        refine aw_goto 11 dX1_takeNumber_7 (by decide) ?_
        refine aw_istore_n [(2, .int 1), (0, .ref 8), (1, .int (nI k))] dX1_takeNumber_11 (Nat.le_of_ble_eq_true rfl) rfl ?_
        refine aw_iload_n dX1_takeNumber_12 0 rfl ?_
        refine aw_if_eq 25 dX1_takeNumber_13 (by decide) (fun c2 => absurd c2 (by decide)) (fun c2 => ?_)
        refine aw_aload_n dX1_takeNumber_16 1 rfl ?_
        refine aw_getI dX1_takeNumber_17 fl_X1_21 (hS.1.s 8 (by decide)) (hS.1.n 8 (by decide)) ?_
        refine aw_topE hp ?_
        refine aw_iconst (v := 1) dX1_takeNumber_20 (by decide) ?_
        refine aw_iaddN p 1 dX1_takeNumber_21 rfl rfl ?_
        refine aw_goto 29 dX1_takeNumber_22 (by decide) ?_
        refine aw_istore_n [(3, .int (nI (p + 1))), (2, .int 1), (0, .ref 8), (1, .int (nI k))] dX1_takeNumber_29 (Nat.le_of_ble_eq_true rfl) rfl ?_
        refine aw_iload_n dX1_takeNumber_30 0 rfl ?_
        refine aw_gets (j := 3) dX1_takeNumber_31 (by decide) fs_X1_121 ?_
        refine aw_iload_n dX1_takeNumber_34 3 rfl ?_
        refine aw_siald (v := nI (wdK k)) (j := 3) dX1_takeNumber_35 (by decide) rfl (vp_in_nI (by show k < 8; omega) (by decide)) (by rw [nI_clamp (by omega)]; exact wd_w k hk) ?_
        refine aw_iaddN (p + 1) (wdK k) dX1_takeNumber_36 rfl rfl ?_
        refine aw_istore [(4, .int (nI ((p + 1) + (wdK k)))), (3, .int (nI (p + 1))), (2, .int 1), (0, .ref 8), (1, .int (nI k))] dX1_takeNumber_37 (Nat.le_of_ble_eq_true rfl) rfl ?_
        refine aw_iload dX1_takeNumber_39 0 rfl ?_
        refine aw_aload_n dX1_takeNumber_41 3 rfl ?_
        refine aw_getR (b := so) dX1_takeNumber_42 fl_X1_31 rfl (hS.1.s 8 (by decide)) (hS.1.n 8 (by decide)) hS.2.1 ?_
        refine aw_getI dX1_takeNumber_45 fl_X1_125 hS.2.2.1.1 hS.2.2.1.n0 ?_
        refine aw_topE hS.2.2.2.2.2.2.1 ?_
        refine aw_icmp_leN ((p + 1) + (wdK k)) L 60 dX1_takeNumber_48 (by decide) rfl rfl (by omega) (by omega) (fun c3 => ?_) (fun c3 => absurd (by omega) c3)
        refine aw_aload_n dX1_takeNumber_60 3 rfl ?_
        refine aw_getR (b := so) dX1_takeNumber_61 fl_X1_31 rfl (hS.1.s 8 (by decide)) (hS.1.n 8 (by decide)) hS.2.1 ?_
        refine aw_aload_n dX1_takeNumber_64 3 rfl ?_
        refine aw_getI dX1_takeNumber_65 fl_X1_21 (hS.1.s 8 (by decide)) (hS.1.n 8 (by decide)) ?_
        refine aw_topE hp ?_
        refine aw_callVi [.int (nI p)] [] (sp_at (d := d - 1) hS (by omega)) dX1_takeNumber_68 ml_X1_36 im_X3_at hS.2.2.1.1 hS.2.2.1.n0 rfl rfl (dl1 (d := d) (by omega)) rfl rfl (Nat.le_of_ble_eq_true rfl) rfl rfl (Nat.zero_le _) (Nat.zero_le _) ?_
        refine aw_istore [(5, .int (nI (B p))), (4, .int (nI ((p + 1) + (wdK k)))), (3, .int (nI (p + 1))), (2, .int 1), (0, .ref 8), (1, .int (nI k))] dX1_takeNumber_71 (Nat.le_of_ble_eq_true rfl) rfl ?_
        refine aw_aload_n dX1_takeNumber_73 4 rfl ?_
        refine aw_iload_n dX1_takeNumber_74 2 rfl ?_
        refine aw_iload dX1_takeNumber_75 1 rfl ?_
        refine aw_callVl [.int (nI (p + 1)), .int (nI ((p + 1) + (wdK k)))] [] (sp_sg (d := d - 1) (a := (p + 1)) (n := wdK k) (by omega) hS (by omega) (by omega)) dX1_takeNumber_77 ml_X1_126 im_X1_signedAt (hS.1.s 8 (by decide)) (hS.1.n 8 (by decide)) rfl rfl (dl1 (d := d) (by omega)) rfl rfl (Nat.le_of_ble_eq_true rfl) rfl rfl (Nat.zero_le _) (Nat.zero_le _) ?_
        refine aw_lstore [(6, .long (sgB B (p + 1) (wdK k))), (5, .int (nI (B p))), (4, .int (nI ((p + 1) + (wdK k)))), (3, .int (nI (p + 1))), (2, .int 1), (0, .ref 8), (1, .int (nI k))] dX1_takeNumber_80 (Nat.le_of_ble_eq_true rfl) rfl ?_
        refine aw_iload_n dX1_takeNumber_82 6 rfl ?_
        refine aw_iconst (v := 2) dX1_takeNumber_83 (by decide) ?_
        refine aw_icmp_neN k 2 95 dX1_takeNumber_84 (by decide) rfl rfl (by omega) (by omega) (fun c4 => ?_) (fun c4 => absurd c4 (by omega))
        refine aw_iload_n dX1_takeNumber_95 4 rfl ?_
        refine aw_if_eq 113 dX1_takeNumber_96 (by decide) (fun c5 => absurd c5 (by decide)) (fun c5 => ?_)
        refine aw_iload_n dX1_takeNumber_99 6 rfl ?_
        refine aw_lload dX1_takeNumber_100 0 rfl ?_
        refine aw_iload dX1_takeNumber_102 1 rfl ?_
        refine aw_callSi [.int (nI k), .long (sgB B (p + 1) (wdK k)), .int (nI (B p))] [] (sp_X1_isScaled (d := d - 1) (by omega) (nI k) (sgB B (p + 1) (wdK k)) (nI (B p)) ) dX1_takeNumber_104 ml_X1_132 sm_X1_isScaled rfl (dl1 (d := d) (by omega)) rfl rfl (Nat.le_of_ble_eq_true rfl) rfl rfl (Nat.zero_le _) (Nat.zero_le _) ?_
        refine aw_if_eq 122 dX1_takeNumber_107 (by decide) (fun c6 => ?_) (fun c6 => absurd (bz_0.mpr hf) c6)
        refine aw_aload_n dX1_takeNumber_122 5 rfl ?_
        refine aw_aload_n dX1_takeNumber_123 5 rfl ?_
        refine aw_getI dX1_takeNumber_124 fl_X1_21 (hS.1.s 8 (by decide)) (hS.1.n 8 (by decide)) ?_
        refine aw_topE hp ?_
        refine aw_callVi [.int (nI p)] [] (sp_X1_failAt (d := d - 1) (nI p) hS.1) dX1_takeNumber_127 ml_X1_49 im_X1_failAt (hS.1.s 8 (by decide)) (hS.1.n 8 (by decide)) rfl rfl (dl1 (d := d) (by omega)) rfl rfl (Nat.le_of_ble_eq_true rfl) rfl rfl (Nat.zero_le _) (Nat.zero_le _) ?_
        refine aw_zret dX1_takeNumber_130 rfl rfl (Nat.zero_le _) (Nat.zero_le _) ?_
        exact ⟨rfl, Er_f M p⟩
      | true =>
        rw [if_pos rfl]
        rw [show p + (wdK k + 1) = p + 1 + wdK k by omega]
        refine aw_iload_n dX1_takeNumber_0 1 rfl ?_
        refine aw_bipush (v := 6) dX1_takeNumber_1 (by decide) ?_
        refine aw_icmp_ltN k 6 10 dX1_takeNumber_3 (by decide) rfl rfl (by omega) (by omega) (fun c1 => absurd c1 (by omega)) (fun c1 => ?_)
        refine aw_iconst (v := 1) dX1_takeNumber_6 (by decide) ?_
        refine aw_goto 11 dX1_takeNumber_7 (by decide) ?_
        refine aw_istore_n [(2, .int 1), (0, .ref 8), (1, .int (nI k))] dX1_takeNumber_11 (Nat.le_of_ble_eq_true rfl) rfl ?_
        refine aw_iload_n dX1_takeNumber_12 0 rfl ?_
        refine aw_if_eq 25 dX1_takeNumber_13 (by decide) (fun c2 => absurd c2 (by decide)) (fun c2 => ?_)
        refine aw_aload_n dX1_takeNumber_16 1 rfl ?_
        refine aw_getI dX1_takeNumber_17 fl_X1_21 (hS.1.s 8 (by decide)) (hS.1.n 8 (by decide)) ?_
        refine aw_topE hp ?_
        refine aw_iconst (v := 1) dX1_takeNumber_20 (by decide) ?_
        refine aw_iaddN p 1 dX1_takeNumber_21 rfl rfl ?_
        refine aw_goto 29 dX1_takeNumber_22 (by decide) ?_
        refine aw_istore_n [(3, .int (nI (p + 1))), (2, .int 1), (0, .ref 8), (1, .int (nI k))] dX1_takeNumber_29 (Nat.le_of_ble_eq_true rfl) rfl ?_
        refine aw_iload_n dX1_takeNumber_30 0 rfl ?_
        refine aw_gets (j := 3) dX1_takeNumber_31 (by decide) fs_X1_121 ?_
        refine aw_iload_n dX1_takeNumber_34 3 rfl ?_
        refine aw_siald (v := nI (wdK k)) (j := 3) dX1_takeNumber_35 (by decide) rfl (vp_in_nI (by show k < 8; omega) (by decide)) (by rw [nI_clamp (by omega)]; exact wd_w k hk) ?_
        refine aw_iaddN (p + 1) (wdK k) dX1_takeNumber_36 rfl rfl ?_
        refine aw_istore [(4, .int (nI ((p + 1) + (wdK k)))), (3, .int (nI (p + 1))), (2, .int 1), (0, .ref 8), (1, .int (nI k))] dX1_takeNumber_37 (Nat.le_of_ble_eq_true rfl) rfl ?_
        refine aw_iload dX1_takeNumber_39 0 rfl ?_
        refine aw_aload_n dX1_takeNumber_41 3 rfl ?_
        refine aw_getR (b := so) dX1_takeNumber_42 fl_X1_31 rfl (hS.1.s 8 (by decide)) (hS.1.n 8 (by decide)) hS.2.1 ?_
        refine aw_getI dX1_takeNumber_45 fl_X1_125 hS.2.2.1.1 hS.2.2.1.n0 ?_
        refine aw_topE hS.2.2.2.2.2.2.1 ?_
        refine aw_icmp_leN ((p + 1) + (wdK k)) L 60 dX1_takeNumber_48 (by decide) rfl rfl (by omega) (by omega) (fun c3 => ?_) (fun c3 => absurd (by omega) c3)
        refine aw_aload_n dX1_takeNumber_60 3 rfl ?_
        refine aw_getR (b := so) dX1_takeNumber_61 fl_X1_31 rfl (hS.1.s 8 (by decide)) (hS.1.n 8 (by decide)) hS.2.1 ?_
        refine aw_aload_n dX1_takeNumber_64 3 rfl ?_
        refine aw_getI dX1_takeNumber_65 fl_X1_21 (hS.1.s 8 (by decide)) (hS.1.n 8 (by decide)) ?_
        refine aw_topE hp ?_
        refine aw_callVi [.int (nI p)] [] (sp_at (d := d - 1) hS (by omega)) dX1_takeNumber_68 ml_X1_36 im_X3_at hS.2.2.1.1 hS.2.2.1.n0 rfl rfl (dl1 (d := d) (by omega)) rfl rfl (Nat.le_of_ble_eq_true rfl) rfl rfl (Nat.zero_le _) (Nat.zero_le _) ?_
        refine aw_istore [(5, .int (nI (B p))), (4, .int (nI ((p + 1) + (wdK k)))), (3, .int (nI (p + 1))), (2, .int 1), (0, .ref 8), (1, .int (nI k))] dX1_takeNumber_71 (Nat.le_of_ble_eq_true rfl) rfl ?_
        refine aw_aload_n dX1_takeNumber_73 4 rfl ?_
        refine aw_iload_n dX1_takeNumber_74 2 rfl ?_
        refine aw_iload dX1_takeNumber_75 1 rfl ?_
        refine aw_callVl [.int (nI (p + 1)), .int (nI ((p + 1) + (wdK k)))] [] (sp_sg (d := d - 1) (a := (p + 1)) (n := wdK k) (by omega) hS (by omega) (by omega)) dX1_takeNumber_77 ml_X1_126 im_X1_signedAt (hS.1.s 8 (by decide)) (hS.1.n 8 (by decide)) rfl rfl (dl1 (d := d) (by omega)) rfl rfl (Nat.le_of_ble_eq_true rfl) rfl rfl (Nat.zero_le _) (Nat.zero_le _) ?_
        refine aw_lstore [(6, .long (sgB B (p + 1) (wdK k))), (5, .int (nI (B p))), (4, .int (nI ((p + 1) + (wdK k)))), (3, .int (nI (p + 1))), (2, .int 1), (0, .ref 8), (1, .int (nI k))] dX1_takeNumber_80 (Nat.le_of_ble_eq_true rfl) rfl ?_
        refine aw_iload_n dX1_takeNumber_82 6 rfl ?_
        refine aw_iconst (v := 2) dX1_takeNumber_83 (by decide) ?_
        refine aw_icmp_neN k 2 95 dX1_takeNumber_84 (by decide) rfl rfl (by omega) (by omega) (fun c4 => ?_) (fun c4 => absurd c4 (by omega))
        refine aw_iload_n dX1_takeNumber_95 4 rfl ?_
        refine aw_if_eq 113 dX1_takeNumber_96 (by decide) (fun c5 => absurd c5 (by decide)) (fun c5 => ?_)
        refine aw_iload_n dX1_takeNumber_99 6 rfl ?_
        refine aw_lload dX1_takeNumber_100 0 rfl ?_
        refine aw_iload dX1_takeNumber_102 1 rfl ?_
        refine aw_callSi [.int (nI k), .long (sgB B (p + 1) (wdK k)), .int (nI (B p))] [] (sp_X1_isScaled (d := d - 1) (by omega) (nI k) (sgB B (p + 1) (wdK k)) (nI (B p)) ) dX1_takeNumber_104 ml_X1_132 sm_X1_isScaled rfl (dl1 (d := d) (by omega)) rfl rfl (Nat.le_of_ble_eq_true rfl) rfl rfl (Nat.zero_le _) (Nat.zero_le _) ?_
        refine aw_if_eq 122 dX1_takeNumber_107 (by decide) (fun c6 => absurd c6 (bz_n0.mpr hf)) (fun c6 => ?_)
        refine aw_goto 131 dX1_takeNumber_110 (by decide) ?_
        refine aw_aload_n dX1_takeNumber_131 5 rfl ?_
        refine aw_iload_n dX1_takeNumber_132 4 rfl ?_
        refine aw_if_eq 147 dX1_takeNumber_133 (by decide) (fun c7 => absurd c7 (by decide)) (fun c7 => ?_)
        refine aw_iload_n dX1_takeNumber_136 6 rfl ?_
        refine aw_lload dX1_takeNumber_137 0 rfl ?_
        refine aw_iload dX1_takeNumber_139 1 rfl ?_
        refine aw_callSl [.int (nI k), .long (sgB B (p + 1) (wdK k)), .int (nI (B p))] [.ref 8] (sp_X0_scaledBits (d := d - 1) (by omega) (nI k) (sgB B (p + 1) (wdK k)) (nI (B p)) ) dX1_takeNumber_141 ml_X1_136 sm_X0_scaledBits rfl (dl1 (d := d) (by omega)) rfl rfl (Nat.le_of_ble_eq_true rfl) rfl rfl (Nat.zero_le _) (Nat.zero_le _) ?_
        refine aw_goto 149 dX1_takeNumber_144 (by decide) ?_
        refine aw_putL dX1_takeNumber_149 fl_X1_27 (Or.inl rfl) (hS.1.s 8 (by decide)) (hS.1.n 8 (by decide)) ?_
        refine aw_aload_n dX1_takeNumber_152 5 rfl ?_
        refine aw_iload dX1_takeNumber_153 2 rfl ?_
        refine aw_putI dX1_takeNumber_155 fl_X1_21 (Or.inl rfl) ((hS.l 5 (sX0_scaledBits (nI k) (sgB B (p + 1) (wdK k)) (nI (B p)))).1.s 8 (by decide)) ((hS.l 5 (sX0_scaledBits (nI k) (sgB B (p + 1) (wdK k)) (nI (B p)))).1.n 8 (by decide)) ?_
        refine aw_iconst (v := 1) dX1_takeNumber_158 (by decide) ?_
        refine aw_zret dX1_takeNumber_159 rfl rfl (Nat.zero_le _) (Nat.zero_le _) ?_
        exact ⟨rfl, rfl⟩
    · rw [if_neg cl]
      refine aw_iload_n dX1_takeNumber_0 1 rfl ?_
      refine aw_bipush (v := 6) dX1_takeNumber_1 (by decide) ?_
      refine aw_icmp_ltN k 6 10 dX1_takeNumber_3 (by decide) rfl rfl (by omega) (by omega) (fun c1 => absurd c1 (by omega)) (fun c1 => ?_)
      refine aw_iconst (v := 1) dX1_takeNumber_6 (by decide) ?_
      refine aw_goto 11 dX1_takeNumber_7 (by decide) ?_
      refine aw_istore_n [(2, .int 1), (0, .ref 8), (1, .int (nI k))] dX1_takeNumber_11 (Nat.le_of_ble_eq_true rfl) rfl ?_
      refine aw_iload_n dX1_takeNumber_12 0 rfl ?_
      refine aw_if_eq 25 dX1_takeNumber_13 (by decide) (fun c2 => absurd c2 (by decide)) (fun c2 => ?_)
      refine aw_aload_n dX1_takeNumber_16 1 rfl ?_
      refine aw_getI dX1_takeNumber_17 fl_X1_21 (hS.1.s 8 (by decide)) (hS.1.n 8 (by decide)) ?_
      refine aw_topE hp ?_
      refine aw_iconst (v := 1) dX1_takeNumber_20 (by decide) ?_
      refine aw_iaddN p 1 dX1_takeNumber_21 rfl rfl ?_
      refine aw_goto 29 dX1_takeNumber_22 (by decide) ?_
      refine aw_istore_n [(3, .int (nI (p + 1))), (2, .int 1), (0, .ref 8), (1, .int (nI k))] dX1_takeNumber_29 (Nat.le_of_ble_eq_true rfl) rfl ?_
      refine aw_iload_n dX1_takeNumber_30 0 rfl ?_
      refine aw_gets (j := 3) dX1_takeNumber_31 (by decide) fs_X1_121 ?_
      refine aw_iload_n dX1_takeNumber_34 3 rfl ?_
      refine aw_siald (v := nI (wdK k)) (j := 3) dX1_takeNumber_35 (by decide) rfl (vp_in_nI (by show k < 8; omega) (by decide)) (by rw [nI_clamp (by omega)]; exact wd_w k hk) ?_
      refine aw_iaddN (p + 1) (wdK k) dX1_takeNumber_36 rfl rfl ?_
      refine aw_istore [(4, .int (nI ((p + 1) + (wdK k)))), (3, .int (nI (p + 1))), (2, .int 1), (0, .ref 8), (1, .int (nI k))] dX1_takeNumber_37 (Nat.le_of_ble_eq_true rfl) rfl ?_
      refine aw_iload dX1_takeNumber_39 0 rfl ?_
      refine aw_aload_n dX1_takeNumber_41 3 rfl ?_
      refine aw_getR (b := so) dX1_takeNumber_42 fl_X1_31 rfl (hS.1.s 8 (by decide)) (hS.1.n 8 (by decide)) hS.2.1 ?_
      refine aw_getI dX1_takeNumber_45 fl_X1_125 hS.2.2.1.1 hS.2.2.1.n0 ?_
      refine aw_topE hS.2.2.2.2.2.2.1 ?_
      refine aw_icmp_leN ((p + 1) + (wdK k)) L 60 dX1_takeNumber_48 (by decide) rfl rfl (by omega) (by omega) (fun c3 => absurd c3 (by omega)) (fun c3 => ?_)
      refine aw_aload_n dX1_takeNumber_51 3 rfl ?_
      refine aw_aload_n dX1_takeNumber_52 3 rfl ?_
      refine aw_getI dX1_takeNumber_53 fl_X1_21 (hS.1.s 8 (by decide)) (hS.1.n 8 (by decide)) ?_
      refine aw_topE hp ?_
      refine aw_callVi [.int (nI p)] [] (sp_X1_failAt (d := d - 1) (nI p) hS.1) dX1_takeNumber_56 ml_X1_49 im_X1_failAt (hS.1.s 8 (by decide)) (hS.1.n 8 (by decide)) rfl rfl (dl1 (d := d) (by omega)) rfl rfl (Nat.le_of_ble_eq_true rfl) rfl rfl (Nat.zero_le _) (Nat.zero_le _) ?_
      refine aw_zret dX1_takeNumber_59 rfl rfl (Nat.zero_le _) (Nat.zero_le _) ?_
      exact ⟨rfl, Er_f M p⟩
theorem lp_ts {d : Nat} (hd : 1 ≤ d) {M : xM} {so N : Nat} {B : Nat → Nat} {L : Nat} {p : Nat} (hS : RdS M so N B L) (hp : mI M 8 2 = nI p) (hpl : p ≤ L) : ∀ g n v, n + g = 10 → AW (fX1_takeStep d) 4 [(3, .int (nI n)), (1, .long v), (0, .ref 8)] [] M 0 0 (PL M (pStep B L p g n v)) := by
  have hL1 := hS.2.2.2.1
  have hL2 := hS.2.2.2.2.1
  intro g
  induction g with
  | zero =>
    intro n v hn
    refine aw_iload_n dX1_takeStep_4 0 rfl ?_
    refine aw_bipush (v := 10) dX1_takeStep_5 (by decide) ?_
    refine aw_icmp_geN n 10 126 dX1_takeStep_7 (by decide) rfl rfl (by omega) (by omega) (fun c1 => ?_) (fun c1 => absurd (by omega) c1)
    refine aw_aload_n dX1_takeStep_126 2 rfl ?_
    refine aw_aload_n dX1_takeStep_127 2 rfl ?_
    refine aw_getI dX1_takeStep_128 fl_X1_21 (hS.1.s 8 (by decide)) (hS.1.n 8 (by decide)) ?_
    refine aw_topE hp ?_
    refine aw_callVi [.int (nI p)] [] (sp_X1_failAt (d := d - 1) (nI p) hS.1) dX1_takeStep_131 ml_X1_49 im_X1_failAt (hS.1.s 8 (by decide)) (hS.1.n 8 (by decide)) rfl rfl (dl1 (d := d) (by omega)) rfl rfl (Nat.le_of_ble_eq_true rfl) rfl rfl (Nat.zero_le _) (Nat.zero_le _) ?_
    refine aw_zret dX1_takeStep_134 rfl rfl (Nat.zero_le _) (Nat.zero_le _) ?_
    exact ⟨rfl, Er_f M p⟩
  | succ g ih =>
    intro n v hn
    unfold pStep
    by_cases cl : p + n < L
    · rw [if_pos cl]
      have hb := (hS.2.2.2.2.2.2.2 (p + n) cl).2
      by_cases c9 : n = 9 ∧ 1 < B (p + n)
      · rw [if_pos c9]
        refine aw_iload_n dX1_takeStep_4 0 rfl ?_
        refine aw_bipush (v := 10) dX1_takeStep_5 (by decide) ?_
        refine aw_icmp_geN n 10 126 dX1_takeStep_7 (by decide) rfl rfl (by omega) (by omega) (fun c1 => absurd c1 (by omega)) (fun c1 => ?_)
        refine aw_aload_n dX1_takeStep_10 2 rfl ?_
        refine aw_getR (b := so) dX1_takeStep_11 fl_X1_31 rfl (hS.1.s 8 (by decide)) (hS.1.n 8 (by decide)) hS.2.1 ?_
        refine aw_aload_n dX1_takeStep_14 2 rfl ?_
        refine aw_getI dX1_takeStep_15 fl_X1_21 (hS.1.s 8 (by decide)) (hS.1.n 8 (by decide)) ?_
        refine aw_topE hp ?_
        refine aw_iload_n dX1_takeStep_18 0 rfl ?_
        refine aw_iaddN p n dX1_takeStep_19 rfl rfl ?_
        refine aw_callVi [.int (nI (p + n))] [] (sp_at (d := d - 1) hS cl) dX1_takeStep_20 ml_X1_36 im_X3_at hS.2.2.1.1 hS.2.2.1.n0 rfl rfl (dl1 (d := d) (by omega)) rfl rfl (Nat.le_of_ble_eq_true rfl) rfl rfl (Nat.zero_le _) (Nat.zero_le _) ?_
        refine aw_istore [(4, .int (nI (B (p + n)))), (3, .int (nI n)), (1, .long v), (0, .ref 8)] dX1_takeStep_23 (Nat.le_of_ble_eq_true rfl) rfl ?_
        refine aw_iload dX1_takeStep_25 0 rfl ?_
        refine aw_if_lt 42 dX1_takeStep_27 (by decide) (fun c2 => absurd c2 (nI_nn (by omega))) (fun c2 => ?_)
        refine aw_iload_n dX1_takeStep_30 1 rfl ?_
        refine aw_bipush (v := 9) dX1_takeStep_31 (by decide) ?_
        refine aw_icmp_neN n 9 51 dX1_takeStep_33 (by decide) rfl rfl (by omega) (by omega) (fun c3 => absurd (by omega) c3) (fun c3 => ?_)
        refine aw_iload dX1_takeStep_36 0 rfl ?_
        refine aw_iconst (v := 1) dX1_takeStep_38 (by decide) ?_
        refine aw_icmp_leN (B (p + n)) 1 51 dX1_takeStep_39 (by decide) rfl rfl (by omega) (by omega) (fun c4 => absurd c4 (by omega)) (fun c4 => ?_)
        refine aw_aload_n dX1_takeStep_42 3 rfl ?_
        refine aw_aload_n dX1_takeStep_43 3 rfl ?_
        refine aw_getI dX1_takeStep_44 fl_X1_21 (hS.1.s 8 (by decide)) (hS.1.n 8 (by decide)) ?_
        refine aw_topE hp ?_
        refine aw_callVi [.int (nI p)] [] (sp_X1_failAt (d := d - 1) (nI p) hS.1) dX1_takeStep_47 ml_X1_49 im_X1_failAt (hS.1.s 8 (by decide)) (hS.1.n 8 (by decide)) rfl rfl (dl1 (d := d) (by omega)) rfl rfl (Nat.le_of_ble_eq_true rfl) rfl rfl (Nat.zero_le _) (Nat.zero_le _) ?_
        refine aw_zret dX1_takeStep_50 rfl rfl (Nat.zero_le _) (Nat.zero_le _) ?_
        exact ⟨rfl, Er_f M p⟩
      · rw [if_neg c9]
        by_cases c8 : 128 ≤ B (p + n)
        · rw [if_pos c8]
          have q := ih (n + 1) (orB v (B (p + n)) n) (by omega)
          have n9 : ¬ n = 9 := by omega
          refine aw_iload_n dX1_takeStep_4 0 rfl ?_
          refine aw_bipush (v := 10) dX1_takeStep_5 (by decide) ?_
          refine aw_icmp_geN n 10 126 dX1_takeStep_7 (by decide) rfl rfl (by omega) (by omega) (fun c1 => absurd c1 (by omega)) (fun c1 => ?_)
          refine aw_aload_n dX1_takeStep_10 2 rfl ?_
          refine aw_getR (b := so) dX1_takeStep_11 fl_X1_31 rfl (hS.1.s 8 (by decide)) (hS.1.n 8 (by decide)) hS.2.1 ?_
          refine aw_aload_n dX1_takeStep_14 2 rfl ?_
          refine aw_getI dX1_takeStep_15 fl_X1_21 (hS.1.s 8 (by decide)) (hS.1.n 8 (by decide)) ?_
          refine aw_topE hp ?_
          refine aw_iload_n dX1_takeStep_18 0 rfl ?_
          refine aw_iaddN p n dX1_takeStep_19 rfl rfl ?_
          refine aw_callVi [.int (nI (p + n))] [] (sp_at (d := d - 1) hS cl) dX1_takeStep_20 ml_X1_36 im_X3_at hS.2.2.1.1 hS.2.2.1.n0 rfl rfl (dl1 (d := d) (by omega)) rfl rfl (Nat.le_of_ble_eq_true rfl) rfl rfl (Nat.zero_le _) (Nat.zero_le _) ?_
          refine aw_istore [(4, .int (nI (B (p + n)))), (3, .int (nI n)), (1, .long v), (0, .ref 8)] dX1_takeStep_23 (Nat.le_of_ble_eq_true rfl) rfl ?_
          refine aw_iload dX1_takeStep_25 0 rfl ?_
          refine aw_if_lt 42 dX1_takeStep_27 (by decide) (fun c2 => absurd c2 (nI_nn (by omega))) (fun c2 => ?_)
          refine aw_iload_n dX1_takeStep_30 1 rfl ?_
          refine aw_bipush (v := 9) dX1_takeStep_31 (by decide) ?_
          refine aw_icmp_neN n 9 51 dX1_takeStep_33 (by decide) rfl rfl (by omega) (by omega) (fun c3 => ?_) (fun c3 => absurd c3 n9)
          refine aw_lload_n dX1_takeStep_51 2 rfl ?_
          refine aw_iload dX1_takeStep_52 0 rfl ?_
          refine aw_bipush (v := 127) dX1_takeStep_54 (by decide) ?_
          refine aw_iand dX1_takeStep_56 ?_
          refine aw_topE and127 ?_
          refine aw_i2lN (B (p + n) % 128) dX1_takeStep_57 rfl (by omega) ?_
          refine aw_bipush (v := 7) dX1_takeStep_58 (by decide) ?_
          refine aw_iload_n dX1_takeStep_60 1 rfl ?_
          refine aw_imulN 7 n dX1_takeStep_61 rfl rfl ?_
          refine aw_lshl dX1_takeStep_62 ?_
          refine aw_lor dX1_takeStep_63 ?_
          refine aw_toplE (show _ = orB v (B (p + n)) n from rfl) ?_
          refine aw_lstore_n [(1, .long (orB v (B (p + n)) n)), (4, .int (nI (B (p + n)))), (3, .int (nI n)), (0, .ref 8)] dX1_takeStep_64 (Nat.le_of_ble_eq_true rfl) rfl ?_
          refine aw_iload dX1_takeStep_65 1 rfl ?_
          refine aw_sipush (v := 128) dX1_takeStep_67 (by decide) ?_
          refine aw_icmp_ltN (B (p + n)) 128 76 dX1_takeStep_70 (by decide) rfl rfl (by omega) (by omega) (fun c4 => absurd c4 (by omega)) (fun c4 => ?_)
          refine aw_goto 120 dX1_takeStep_73 (by decide) ?_
          refine aw_iincN n 1 [(3, .int (nI (n + 1))), (1, .long (orB v (B (p + n)) n)), (4, .int (nI (B (p + n)))), (0, .ref 8)] dX1_takeStep_120 2 rfl rfl rfl (Nat.le_of_ble_eq_true rfl) rfl ?_
          refine aw_goto 4 dX1_takeStep_123 (by decide) ?_
          refine aw_sub [0, 1, 3] rfl ?_
          exact q
        · rw [if_neg c8]
          by_cases c0 : B (p + n) = 0 ∧ 0 < n
          · rw [if_pos c0]
            by_cases n9 : n = 9
            · skip
              refine aw_iload_n dX1_takeStep_4 0 rfl ?_
              refine aw_bipush (v := 10) dX1_takeStep_5 (by decide) ?_
              refine aw_icmp_geN n 10 126 dX1_takeStep_7 (by decide) rfl rfl (by omega) (by omega) (fun c1 => absurd c1 (by omega)) (fun c1 => ?_)
              refine aw_aload_n dX1_takeStep_10 2 rfl ?_
              refine aw_getR (b := so) dX1_takeStep_11 fl_X1_31 rfl (hS.1.s 8 (by decide)) (hS.1.n 8 (by decide)) hS.2.1 ?_
              refine aw_aload_n dX1_takeStep_14 2 rfl ?_
              refine aw_getI dX1_takeStep_15 fl_X1_21 (hS.1.s 8 (by decide)) (hS.1.n 8 (by decide)) ?_
              refine aw_topE hp ?_
              refine aw_iload_n dX1_takeStep_18 0 rfl ?_
              refine aw_iaddN p n dX1_takeStep_19 rfl rfl ?_
              refine aw_callVi [.int (nI (p + n))] [] (sp_at (d := d - 1) hS cl) dX1_takeStep_20 ml_X1_36 im_X3_at hS.2.2.1.1 hS.2.2.1.n0 rfl rfl (dl1 (d := d) (by omega)) rfl rfl (Nat.le_of_ble_eq_true rfl) rfl rfl (Nat.zero_le _) (Nat.zero_le _) ?_
              refine aw_istore [(4, .int (nI (B (p + n)))), (3, .int (nI n)), (1, .long v), (0, .ref 8)] dX1_takeStep_23 (Nat.le_of_ble_eq_true rfl) rfl ?_
              refine aw_iload dX1_takeStep_25 0 rfl ?_
              refine aw_if_lt 42 dX1_takeStep_27 (by decide) (fun c2 => absurd c2 (nI_nn (by omega))) (fun c2 => ?_)
              refine aw_iload_n dX1_takeStep_30 1 rfl ?_
              refine aw_bipush (v := 9) dX1_takeStep_31 (by decide) ?_
              refine aw_icmp_neN n 9 51 dX1_takeStep_33 (by decide) rfl rfl (by omega) (by omega) (fun c3 => absurd n9 c3) (fun c3 => ?_)
              refine aw_iload dX1_takeStep_36 0 rfl ?_
              refine aw_iconst (v := 1) dX1_takeStep_38 (by decide) ?_
              refine aw_icmp_leN (B (p + n)) 1 51 dX1_takeStep_39 (by decide) rfl rfl (by omega) (by omega) (fun c4 => ?_) (fun c4 => absurd (by omega) c4)
              refine aw_lload_n dX1_takeStep_51 2 rfl ?_
              refine aw_iload dX1_takeStep_52 0 rfl ?_
              refine aw_bipush (v := 127) dX1_takeStep_54 (by decide) ?_
              refine aw_iand dX1_takeStep_56 ?_
              refine aw_topE and127 ?_
              refine aw_i2lN (B (p + n) % 128) dX1_takeStep_57 rfl (by omega) ?_
              refine aw_bipush (v := 7) dX1_takeStep_58 (by decide) ?_
              refine aw_iload_n dX1_takeStep_60 1 rfl ?_
              refine aw_imulN 7 n dX1_takeStep_61 rfl rfl ?_
              refine aw_lshl dX1_takeStep_62 ?_
              refine aw_lor dX1_takeStep_63 ?_
              refine aw_toplE (show _ = orB v (B (p + n)) n from rfl) ?_
              refine aw_lstore_n [(1, .long (orB v (B (p + n)) n)), (4, .int (nI (B (p + n)))), (3, .int (nI n)), (0, .ref 8)] dX1_takeStep_64 (Nat.le_of_ble_eq_true rfl) rfl ?_
              refine aw_iload dX1_takeStep_65 1 rfl ?_
              refine aw_sipush (v := 128) dX1_takeStep_67 (by decide) ?_
              refine aw_icmp_ltN (B (p + n)) 128 76 dX1_takeStep_70 (by decide) rfl rfl (by omega) (by omega) (fun c5 => ?_) (fun c5 => absurd (by omega) c5)
              refine aw_iload dX1_takeStep_76 1 rfl ?_
              refine aw_if_ne 94 dX1_takeStep_78 (by decide) (fun c6 => absurd ((nI_z (by omega)).mpr c0.1) c6) (fun c6 => ?_)
              refine aw_iload_n dX1_takeStep_81 2 rfl ?_
              refine aw_if_le 94 dX1_takeStep_82 (by decide) (fun c7 => absurd ((nI_l0 (by omega)).mp c7) (by omega)) (fun c7 => ?_)
              refine aw_aload_n dX1_takeStep_85 3 rfl ?_
              refine aw_aload_n dX1_takeStep_86 3 rfl ?_
              refine aw_getI dX1_takeStep_87 fl_X1_21 (hS.1.s 8 (by decide)) (hS.1.n 8 (by decide)) ?_
              refine aw_topE hp ?_
              refine aw_callVi [.int (nI p)] [] (sp_X1_failAt (d := d - 1) (nI p) hS.1) dX1_takeStep_90 ml_X1_49 im_X1_failAt (hS.1.s 8 (by decide)) (hS.1.n 8 (by decide)) rfl rfl (dl1 (d := d) (by omega)) rfl rfl (Nat.le_of_ble_eq_true rfl) rfl rfl (Nat.zero_le _) (Nat.zero_le _) ?_
              refine aw_zret dX1_takeStep_93 rfl rfl (Nat.zero_le _) (Nat.zero_le _) ?_
              exact ⟨rfl, Er_f M p⟩
            · skip
              refine aw_iload_n dX1_takeStep_4 0 rfl ?_
              refine aw_bipush (v := 10) dX1_takeStep_5 (by decide) ?_
              refine aw_icmp_geN n 10 126 dX1_takeStep_7 (by decide) rfl rfl (by omega) (by omega) (fun c1 => absurd c1 (by omega)) (fun c1 => ?_)
              refine aw_aload_n dX1_takeStep_10 2 rfl ?_
              refine aw_getR (b := so) dX1_takeStep_11 fl_X1_31 rfl (hS.1.s 8 (by decide)) (hS.1.n 8 (by decide)) hS.2.1 ?_
              refine aw_aload_n dX1_takeStep_14 2 rfl ?_
              refine aw_getI dX1_takeStep_15 fl_X1_21 (hS.1.s 8 (by decide)) (hS.1.n 8 (by decide)) ?_
              refine aw_topE hp ?_
              refine aw_iload_n dX1_takeStep_18 0 rfl ?_
              refine aw_iaddN p n dX1_takeStep_19 rfl rfl ?_
              refine aw_callVi [.int (nI (p + n))] [] (sp_at (d := d - 1) hS cl) dX1_takeStep_20 ml_X1_36 im_X3_at hS.2.2.1.1 hS.2.2.1.n0 rfl rfl (dl1 (d := d) (by omega)) rfl rfl (Nat.le_of_ble_eq_true rfl) rfl rfl (Nat.zero_le _) (Nat.zero_le _) ?_
              refine aw_istore [(4, .int (nI (B (p + n)))), (3, .int (nI n)), (1, .long v), (0, .ref 8)] dX1_takeStep_23 (Nat.le_of_ble_eq_true rfl) rfl ?_
              refine aw_iload dX1_takeStep_25 0 rfl ?_
              refine aw_if_lt 42 dX1_takeStep_27 (by decide) (fun c2 => absurd c2 (nI_nn (by omega))) (fun c2 => ?_)
              refine aw_iload_n dX1_takeStep_30 1 rfl ?_
              refine aw_bipush (v := 9) dX1_takeStep_31 (by decide) ?_
              refine aw_icmp_neN n 9 51 dX1_takeStep_33 (by decide) rfl rfl (by omega) (by omega) (fun c3 => ?_) (fun c3 => absurd c3 n9)
              refine aw_lload_n dX1_takeStep_51 2 rfl ?_
              refine aw_iload dX1_takeStep_52 0 rfl ?_
              refine aw_bipush (v := 127) dX1_takeStep_54 (by decide) ?_
              refine aw_iand dX1_takeStep_56 ?_
              refine aw_topE and127 ?_
              refine aw_i2lN (B (p + n) % 128) dX1_takeStep_57 rfl (by omega) ?_
              refine aw_bipush (v := 7) dX1_takeStep_58 (by decide) ?_
              refine aw_iload_n dX1_takeStep_60 1 rfl ?_
              refine aw_imulN 7 n dX1_takeStep_61 rfl rfl ?_
              refine aw_lshl dX1_takeStep_62 ?_
              refine aw_lor dX1_takeStep_63 ?_
              refine aw_toplE (show _ = orB v (B (p + n)) n from rfl) ?_
              refine aw_lstore_n [(1, .long (orB v (B (p + n)) n)), (4, .int (nI (B (p + n)))), (3, .int (nI n)), (0, .ref 8)] dX1_takeStep_64 (Nat.le_of_ble_eq_true rfl) rfl ?_
              refine aw_iload dX1_takeStep_65 1 rfl ?_
              refine aw_sipush (v := 128) dX1_takeStep_67 (by decide) ?_
              refine aw_icmp_ltN (B (p + n)) 128 76 dX1_takeStep_70 (by decide) rfl rfl (by omega) (by omega) (fun c4 => ?_) (fun c4 => absurd (by omega) c4)
              refine aw_iload dX1_takeStep_76 1 rfl ?_
              refine aw_if_ne 94 dX1_takeStep_78 (by decide) (fun c5 => absurd ((nI_z (by omega)).mpr c0.1) c5) (fun c5 => ?_)
              refine aw_iload_n dX1_takeStep_81 2 rfl ?_
              refine aw_if_le 94 dX1_takeStep_82 (by decide) (fun c6 => absurd ((nI_l0 (by omega)).mp c6) (by omega)) (fun c6 => ?_)
              refine aw_aload_n dX1_takeStep_85 3 rfl ?_
              refine aw_aload_n dX1_takeStep_86 3 rfl ?_
              refine aw_getI dX1_takeStep_87 fl_X1_21 (hS.1.s 8 (by decide)) (hS.1.n 8 (by decide)) ?_
              refine aw_topE hp ?_
              refine aw_callVi [.int (nI p)] [] (sp_X1_failAt (d := d - 1) (nI p) hS.1) dX1_takeStep_90 ml_X1_49 im_X1_failAt (hS.1.s 8 (by decide)) (hS.1.n 8 (by decide)) rfl rfl (dl1 (d := d) (by omega)) rfl rfl (Nat.le_of_ble_eq_true rfl) rfl rfl (Nat.zero_le _) (Nat.zero_le _) ?_
              refine aw_zret dX1_takeStep_93 rfl rfl (Nat.zero_le _) (Nat.zero_le _) ?_
              exact ⟨rfl, Er_f M p⟩
          · rw [if_neg c0]
            by_cases n9 : n = 9
            · by_cases cz : B (p + n) = 0
              · exact absurd ⟨cz, by omega⟩ c0
              · skip
                refine aw_iload_n dX1_takeStep_4 0 rfl ?_
                refine aw_bipush (v := 10) dX1_takeStep_5 (by decide) ?_
                refine aw_icmp_geN n 10 126 dX1_takeStep_7 (by decide) rfl rfl (by omega) (by omega) (fun c1 => absurd c1 (by omega)) (fun c1 => ?_)
                refine aw_aload_n dX1_takeStep_10 2 rfl ?_
                refine aw_getR (b := so) dX1_takeStep_11 fl_X1_31 rfl (hS.1.s 8 (by decide)) (hS.1.n 8 (by decide)) hS.2.1 ?_
                refine aw_aload_n dX1_takeStep_14 2 rfl ?_
                refine aw_getI dX1_takeStep_15 fl_X1_21 (hS.1.s 8 (by decide)) (hS.1.n 8 (by decide)) ?_
                refine aw_topE hp ?_
                refine aw_iload_n dX1_takeStep_18 0 rfl ?_
                refine aw_iaddN p n dX1_takeStep_19 rfl rfl ?_
                refine aw_callVi [.int (nI (p + n))] [] (sp_at (d := d - 1) hS cl) dX1_takeStep_20 ml_X1_36 im_X3_at hS.2.2.1.1 hS.2.2.1.n0 rfl rfl (dl1 (d := d) (by omega)) rfl rfl (Nat.le_of_ble_eq_true rfl) rfl rfl (Nat.zero_le _) (Nat.zero_le _) ?_
                refine aw_istore [(4, .int (nI (B (p + n)))), (3, .int (nI n)), (1, .long v), (0, .ref 8)] dX1_takeStep_23 (Nat.le_of_ble_eq_true rfl) rfl ?_
                refine aw_iload dX1_takeStep_25 0 rfl ?_
                refine aw_if_lt 42 dX1_takeStep_27 (by decide) (fun c2 => absurd c2 (nI_nn (by omega))) (fun c2 => ?_)
                refine aw_iload_n dX1_takeStep_30 1 rfl ?_
                refine aw_bipush (v := 9) dX1_takeStep_31 (by decide) ?_
                refine aw_icmp_neN n 9 51 dX1_takeStep_33 (by decide) rfl rfl (by omega) (by omega) (fun c3 => absurd n9 c3) (fun c3 => ?_)
                refine aw_iload dX1_takeStep_36 0 rfl ?_
                refine aw_iconst (v := 1) dX1_takeStep_38 (by decide) ?_
                refine aw_icmp_leN (B (p + n)) 1 51 dX1_takeStep_39 (by decide) rfl rfl (by omega) (by omega) (fun c4 => ?_) (fun c4 => absurd (by omega) c4)
                refine aw_lload_n dX1_takeStep_51 2 rfl ?_
                refine aw_iload dX1_takeStep_52 0 rfl ?_
                refine aw_bipush (v := 127) dX1_takeStep_54 (by decide) ?_
                refine aw_iand dX1_takeStep_56 ?_
                refine aw_topE and127 ?_
                refine aw_i2lN (B (p + n) % 128) dX1_takeStep_57 rfl (by omega) ?_
                refine aw_bipush (v := 7) dX1_takeStep_58 (by decide) ?_
                refine aw_iload_n dX1_takeStep_60 1 rfl ?_
                refine aw_imulN 7 n dX1_takeStep_61 rfl rfl ?_
                refine aw_lshl dX1_takeStep_62 ?_
                refine aw_lor dX1_takeStep_63 ?_
                refine aw_toplE (show _ = orB v (B (p + n)) n from rfl) ?_
                refine aw_lstore_n [(1, .long (orB v (B (p + n)) n)), (4, .int (nI (B (p + n)))), (3, .int (nI n)), (0, .ref 8)] dX1_takeStep_64 (Nat.le_of_ble_eq_true rfl) rfl ?_
                refine aw_iload dX1_takeStep_65 1 rfl ?_
                refine aw_sipush (v := 128) dX1_takeStep_67 (by decide) ?_
                refine aw_icmp_ltN (B (p + n)) 128 76 dX1_takeStep_70 (by decide) rfl rfl (by omega) (by omega) (fun c5 => ?_) (fun c5 => absurd (by omega) c5)
                refine aw_iload dX1_takeStep_76 1 rfl ?_
                refine aw_if_ne 94 dX1_takeStep_78 (by decide) (fun c6 => ?_) (fun c6 => absurd ((nI_z (by omega)).mp c6) cz)
                refine aw_aload_n dX1_takeStep_94 3 rfl ?_
                refine aw_dup dX1_takeStep_95 rfl ?_
                refine aw_getI dX1_takeStep_96 fl_X1_21 (hS.1.s 8 (by decide)) (hS.1.n 8 (by decide)) ?_
                refine aw_topE hp ?_
                refine aw_iload_n dX1_takeStep_99 2 rfl ?_
                refine aw_iconst (v := 1) dX1_takeStep_100 (by decide) ?_
                refine aw_iaddN n 1 dX1_takeStep_101 rfl rfl ?_
                refine aw_iaddN p (n + 1) dX1_takeStep_102 rfl rfl ?_
                refine aw_putI dX1_takeStep_103 fl_X1_21 (Or.inl rfl) (hS.1.s 8 (by decide)) (hS.1.n 8 (by decide)) ?_
                refine aw_aload_n dX1_takeStep_106 3 rfl ?_
                refine aw_lload_n dX1_takeStep_107 0 rfl ?_
                refine aw_iconst (v := 1) dX1_takeStep_108 (by decide) ?_
                refine aw_lushr dX1_takeStep_109 ?_
                refine aw_lload_n dX1_takeStep_110 0 rfl ?_
                refine aw_lconst (v := 1) dX1_takeStep_111 (by decide) ?_
                refine aw_land dX1_takeStep_112 ?_
                refine aw_lneg dX1_takeStep_113 ?_
                refine aw_lxor dX1_takeStep_114 ?_
                refine aw_putL dX1_takeStep_115 fl_X1_27 (Or.inl rfl) ((hS.i 2 (nI (p + (n + 1)))).1.s 8 (by decide)) ((hS.i 2 (nI (p + (n + 1)))).1.n 8 (by decide)) ?_
                refine aw_iconst (v := 1) dX1_takeStep_118 (by decide) ?_
                refine aw_zret dX1_takeStep_119 rfl rfl (Nat.zero_le _) (Nat.zero_le _) ?_
                exact ⟨rfl, rfl⟩
            · by_cases cz : B (p + n) = 0
              · skip
                refine aw_iload_n dX1_takeStep_4 0 rfl ?_
                refine aw_bipush (v := 10) dX1_takeStep_5 (by decide) ?_
                refine aw_icmp_geN n 10 126 dX1_takeStep_7 (by decide) rfl rfl (by omega) (by omega) (fun c1 => absurd c1 (by omega)) (fun c1 => ?_)
                refine aw_aload_n dX1_takeStep_10 2 rfl ?_
                refine aw_getR (b := so) dX1_takeStep_11 fl_X1_31 rfl (hS.1.s 8 (by decide)) (hS.1.n 8 (by decide)) hS.2.1 ?_
                refine aw_aload_n dX1_takeStep_14 2 rfl ?_
                refine aw_getI dX1_takeStep_15 fl_X1_21 (hS.1.s 8 (by decide)) (hS.1.n 8 (by decide)) ?_
                refine aw_topE hp ?_
                refine aw_iload_n dX1_takeStep_18 0 rfl ?_
                refine aw_iaddN p n dX1_takeStep_19 rfl rfl ?_
                refine aw_callVi [.int (nI (p + n))] [] (sp_at (d := d - 1) hS cl) dX1_takeStep_20 ml_X1_36 im_X3_at hS.2.2.1.1 hS.2.2.1.n0 rfl rfl (dl1 (d := d) (by omega)) rfl rfl (Nat.le_of_ble_eq_true rfl) rfl rfl (Nat.zero_le _) (Nat.zero_le _) ?_
                refine aw_istore [(4, .int (nI (B (p + n)))), (3, .int (nI n)), (1, .long v), (0, .ref 8)] dX1_takeStep_23 (Nat.le_of_ble_eq_true rfl) rfl ?_
                refine aw_iload dX1_takeStep_25 0 rfl ?_
                refine aw_if_lt 42 dX1_takeStep_27 (by decide) (fun c2 => absurd c2 (nI_nn (by omega))) (fun c2 => ?_)
                refine aw_iload_n dX1_takeStep_30 1 rfl ?_
                refine aw_bipush (v := 9) dX1_takeStep_31 (by decide) ?_
                refine aw_icmp_neN n 9 51 dX1_takeStep_33 (by decide) rfl rfl (by omega) (by omega) (fun c3 => ?_) (fun c3 => absurd c3 n9)
                refine aw_lload_n dX1_takeStep_51 2 rfl ?_
                refine aw_iload dX1_takeStep_52 0 rfl ?_
                refine aw_bipush (v := 127) dX1_takeStep_54 (by decide) ?_
                refine aw_iand dX1_takeStep_56 ?_
                refine aw_topE and127 ?_
                refine aw_i2lN (B (p + n) % 128) dX1_takeStep_57 rfl (by omega) ?_
                refine aw_bipush (v := 7) dX1_takeStep_58 (by decide) ?_
                refine aw_iload_n dX1_takeStep_60 1 rfl ?_
                refine aw_imulN 7 n dX1_takeStep_61 rfl rfl ?_
                refine aw_lshl dX1_takeStep_62 ?_
                refine aw_lor dX1_takeStep_63 ?_
                refine aw_toplE (show _ = orB v (B (p + n)) n from rfl) ?_
                refine aw_lstore_n [(1, .long (orB v (B (p + n)) n)), (4, .int (nI (B (p + n)))), (3, .int (nI n)), (0, .ref 8)] dX1_takeStep_64 (Nat.le_of_ble_eq_true rfl) rfl ?_
                refine aw_iload dX1_takeStep_65 1 rfl ?_
                refine aw_sipush (v := 128) dX1_takeStep_67 (by decide) ?_
                refine aw_icmp_ltN (B (p + n)) 128 76 dX1_takeStep_70 (by decide) rfl rfl (by omega) (by omega) (fun c4 => ?_) (fun c4 => absurd (by omega) c4)
                refine aw_iload dX1_takeStep_76 1 rfl ?_
                refine aw_if_ne 94 dX1_takeStep_78 (by decide) (fun c5 => absurd ((nI_z (by omega)).mpr cz) c5) (fun c5 => ?_)
                refine aw_iload_n dX1_takeStep_81 2 rfl ?_
                refine aw_if_le 94 dX1_takeStep_82 (by decide) (fun c6 => ?_) (fun c6 => absurd ((nI_l0 (by omega)).mpr (by omega)) c6)
                refine aw_aload_n dX1_takeStep_94 3 rfl ?_
                refine aw_dup dX1_takeStep_95 rfl ?_
                refine aw_getI dX1_takeStep_96 fl_X1_21 (hS.1.s 8 (by decide)) (hS.1.n 8 (by decide)) ?_
                refine aw_topE hp ?_
                refine aw_iload_n dX1_takeStep_99 2 rfl ?_
                refine aw_iconst (v := 1) dX1_takeStep_100 (by decide) ?_
                refine aw_iaddN n 1 dX1_takeStep_101 rfl rfl ?_
                refine aw_iaddN p (n + 1) dX1_takeStep_102 rfl rfl ?_
                refine aw_putI dX1_takeStep_103 fl_X1_21 (Or.inl rfl) (hS.1.s 8 (by decide)) (hS.1.n 8 (by decide)) ?_
                refine aw_aload_n dX1_takeStep_106 3 rfl ?_
                refine aw_lload_n dX1_takeStep_107 0 rfl ?_
                refine aw_iconst (v := 1) dX1_takeStep_108 (by decide) ?_
                refine aw_lushr dX1_takeStep_109 ?_
                refine aw_lload_n dX1_takeStep_110 0 rfl ?_
                refine aw_lconst (v := 1) dX1_takeStep_111 (by decide) ?_
                refine aw_land dX1_takeStep_112 ?_
                refine aw_lneg dX1_takeStep_113 ?_
                refine aw_lxor dX1_takeStep_114 ?_
                refine aw_putL dX1_takeStep_115 fl_X1_27 (Or.inl rfl) ((hS.i 2 (nI (p + (n + 1)))).1.s 8 (by decide)) ((hS.i 2 (nI (p + (n + 1)))).1.n 8 (by decide)) ?_
                refine aw_iconst (v := 1) dX1_takeStep_118 (by decide) ?_
                refine aw_zret dX1_takeStep_119 rfl rfl (Nat.zero_le _) (Nat.zero_le _) ?_
                exact ⟨rfl, rfl⟩
              · skip
                refine aw_iload_n dX1_takeStep_4 0 rfl ?_
                refine aw_bipush (v := 10) dX1_takeStep_5 (by decide) ?_
                refine aw_icmp_geN n 10 126 dX1_takeStep_7 (by decide) rfl rfl (by omega) (by omega) (fun c1 => absurd c1 (by omega)) (fun c1 => ?_)
                refine aw_aload_n dX1_takeStep_10 2 rfl ?_
                refine aw_getR (b := so) dX1_takeStep_11 fl_X1_31 rfl (hS.1.s 8 (by decide)) (hS.1.n 8 (by decide)) hS.2.1 ?_
                refine aw_aload_n dX1_takeStep_14 2 rfl ?_
                refine aw_getI dX1_takeStep_15 fl_X1_21 (hS.1.s 8 (by decide)) (hS.1.n 8 (by decide)) ?_
                refine aw_topE hp ?_
                refine aw_iload_n dX1_takeStep_18 0 rfl ?_
                refine aw_iaddN p n dX1_takeStep_19 rfl rfl ?_
                refine aw_callVi [.int (nI (p + n))] [] (sp_at (d := d - 1) hS cl) dX1_takeStep_20 ml_X1_36 im_X3_at hS.2.2.1.1 hS.2.2.1.n0 rfl rfl (dl1 (d := d) (by omega)) rfl rfl (Nat.le_of_ble_eq_true rfl) rfl rfl (Nat.zero_le _) (Nat.zero_le _) ?_
                refine aw_istore [(4, .int (nI (B (p + n)))), (3, .int (nI n)), (1, .long v), (0, .ref 8)] dX1_takeStep_23 (Nat.le_of_ble_eq_true rfl) rfl ?_
                refine aw_iload dX1_takeStep_25 0 rfl ?_
                refine aw_if_lt 42 dX1_takeStep_27 (by decide) (fun c2 => absurd c2 (nI_nn (by omega))) (fun c2 => ?_)
                refine aw_iload_n dX1_takeStep_30 1 rfl ?_
                refine aw_bipush (v := 9) dX1_takeStep_31 (by decide) ?_
                refine aw_icmp_neN n 9 51 dX1_takeStep_33 (by decide) rfl rfl (by omega) (by omega) (fun c3 => ?_) (fun c3 => absurd c3 n9)
                refine aw_lload_n dX1_takeStep_51 2 rfl ?_
                refine aw_iload dX1_takeStep_52 0 rfl ?_
                refine aw_bipush (v := 127) dX1_takeStep_54 (by decide) ?_
                refine aw_iand dX1_takeStep_56 ?_
                refine aw_topE and127 ?_
                refine aw_i2lN (B (p + n) % 128) dX1_takeStep_57 rfl (by omega) ?_
                refine aw_bipush (v := 7) dX1_takeStep_58 (by decide) ?_
                refine aw_iload_n dX1_takeStep_60 1 rfl ?_
                refine aw_imulN 7 n dX1_takeStep_61 rfl rfl ?_
                refine aw_lshl dX1_takeStep_62 ?_
                refine aw_lor dX1_takeStep_63 ?_
                refine aw_toplE (show _ = orB v (B (p + n)) n from rfl) ?_
                refine aw_lstore_n [(1, .long (orB v (B (p + n)) n)), (4, .int (nI (B (p + n)))), (3, .int (nI n)), (0, .ref 8)] dX1_takeStep_64 (Nat.le_of_ble_eq_true rfl) rfl ?_
                refine aw_iload dX1_takeStep_65 1 rfl ?_
                refine aw_sipush (v := 128) dX1_takeStep_67 (by decide) ?_
                refine aw_icmp_ltN (B (p + n)) 128 76 dX1_takeStep_70 (by decide) rfl rfl (by omega) (by omega) (fun c4 => ?_) (fun c4 => absurd (by omega) c4)
                refine aw_iload dX1_takeStep_76 1 rfl ?_
                refine aw_if_ne 94 dX1_takeStep_78 (by decide) (fun c5 => ?_) (fun c5 => absurd ((nI_z (by omega)).mp c5) cz)
                refine aw_aload_n dX1_takeStep_94 3 rfl ?_
                refine aw_dup dX1_takeStep_95 rfl ?_
                refine aw_getI dX1_takeStep_96 fl_X1_21 (hS.1.s 8 (by decide)) (hS.1.n 8 (by decide)) ?_
                refine aw_topE hp ?_
                refine aw_iload_n dX1_takeStep_99 2 rfl ?_
                refine aw_iconst (v := 1) dX1_takeStep_100 (by decide) ?_
                refine aw_iaddN n 1 dX1_takeStep_101 rfl rfl ?_
                refine aw_iaddN p (n + 1) dX1_takeStep_102 rfl rfl ?_
                refine aw_putI dX1_takeStep_103 fl_X1_21 (Or.inl rfl) (hS.1.s 8 (by decide)) (hS.1.n 8 (by decide)) ?_
                refine aw_aload_n dX1_takeStep_106 3 rfl ?_
                refine aw_lload_n dX1_takeStep_107 0 rfl ?_
                refine aw_iconst (v := 1) dX1_takeStep_108 (by decide) ?_
                refine aw_lushr dX1_takeStep_109 ?_
                refine aw_lload_n dX1_takeStep_110 0 rfl ?_
                refine aw_lconst (v := 1) dX1_takeStep_111 (by decide) ?_
                refine aw_land dX1_takeStep_112 ?_
                refine aw_lneg dX1_takeStep_113 ?_
                refine aw_lxor dX1_takeStep_114 ?_
                refine aw_putL dX1_takeStep_115 fl_X1_27 (Or.inl rfl) ((hS.i 2 (nI (p + (n + 1)))).1.s 8 (by decide)) ((hS.i 2 (nI (p + (n + 1)))).1.n 8 (by decide)) ?_
                refine aw_iconst (v := 1) dX1_takeStep_118 (by decide) ?_
                refine aw_zret dX1_takeStep_119 rfl rfl (Nat.zero_le _) (Nat.zero_le _) ?_
                exact ⟨rfl, rfl⟩
    · rw [if_neg cl]
      refine aw_iload_n dX1_takeStep_4 0 rfl ?_
      refine aw_bipush (v := 10) dX1_takeStep_5 (by decide) ?_
      refine aw_icmp_geN n 10 126 dX1_takeStep_7 (by decide) rfl rfl (by omega) (by omega) (fun c1 => absurd c1 (by omega)) (fun c1 => ?_)
      refine aw_aload_n dX1_takeStep_10 2 rfl ?_
      refine aw_getR (b := so) dX1_takeStep_11 fl_X1_31 rfl (hS.1.s 8 (by decide)) (hS.1.n 8 (by decide)) hS.2.1 ?_
      refine aw_aload_n dX1_takeStep_14 2 rfl ?_
      refine aw_getI dX1_takeStep_15 fl_X1_21 (hS.1.s 8 (by decide)) (hS.1.n 8 (by decide)) ?_
      refine aw_topE hp ?_
      refine aw_iload_n dX1_takeStep_18 0 rfl ?_
      refine aw_iaddN p n dX1_takeStep_19 rfl rfl ?_
      refine aw_callVi [.int (nI (p + n))] [] (sp_atn (d := d - 1) hS cl (by omega)) dX1_takeStep_20 ml_X1_36 im_X3_at hS.2.2.1.1 hS.2.2.1.n0 rfl rfl (dl1 (d := d) (by omega)) rfl rfl (Nat.le_of_ble_eq_true rfl) rfl rfl (Nat.zero_le _) (Nat.zero_le _) ?_
      refine aw_istore [(4, .int (-1)), (3, .int (nI n)), (1, .long v), (0, .ref 8)] dX1_takeStep_23 (Nat.le_of_ble_eq_true rfl) rfl ?_
      refine aw_iload dX1_takeStep_25 0 rfl ?_
      refine aw_if_lt 42 dX1_takeStep_27 (by decide) (fun c2 => ?_) (fun c2 => absurd (by decide) c2)
      refine aw_aload_n dX1_takeStep_42 3 rfl ?_
      refine aw_aload_n dX1_takeStep_43 3 rfl ?_
      refine aw_getI dX1_takeStep_44 fl_X1_21 (hS.1.s 8 (by decide)) (hS.1.n 8 (by decide)) ?_
      refine aw_topE hp ?_
      refine aw_callVi [.int (nI p)] [] (sp_X1_failAt (d := d - 1) (nI p) hS.1) dX1_takeStep_47 ml_X1_49 im_X1_failAt (hS.1.s 8 (by decide)) (hS.1.n 8 (by decide)) rfl rfl (dl1 (d := d) (by omega)) rfl rfl (Nat.le_of_ble_eq_true rfl) rfl rfl (Nat.zero_le _) (Nat.zero_le _) ?_
      refine aw_zret dX1_takeStep_50 rfl rfl (Nat.zero_le _) (Nat.zero_le _) ?_
      exact ⟨rfl, Er_f M p⟩
theorem sp_tst {d : Nat} (hd : 1 ≤ d) {M : xM} {so N : Nat} {B : Nat → Nat} {L : Nat} {p : Nat} (hS : RdS M so N B L) (hp : mI M 8 2 = nI p) (hpl : p ≤ L) : Sp (fX1_takeStep d) [.ref 8] M (PL M (pStep B L p 10 0 0)) := by
  refine Sp.of pn_X1 (Nat.le_of_ble_eq_true rfl) (fun h => Bool.noConfusion h) ?_
  have hL1 := hS.2.2.2.1
  have hL2 := hS.2.2.2.2.1
  refine aw_lconst (v := 0) dX1_takeStep_0 (by decide) ?_
  refine aw_lstore_n [(1, .long 0), (0, .ref 8)] dX1_takeStep_1 (Nat.le_of_ble_eq_true rfl) rfl ?_
  refine aw_iconst (v := 0) dX1_takeStep_2 (by decide) ?_
  refine aw_istore_n [(3, .int 0), (1, .long 0), (0, .ref 8)] dX1_takeStep_3 (Nat.le_of_ble_eq_true rfl) rfl ?_
  exact lp_ts hd hS hp hpl 10 0 0 (by omega)
theorem lp_tw {d : Nat} (hd : 1 ≤ d) {M : xM} {so N : Nat} {B : Nat → Nat} {L : Nat} {n : Nat} (hS : RdS M so N B L) (hn : n ≤ 7) : ∀ j i c p, i + j = n → p ≤ L → AW (fX1_takeWord d) 49 [(2, .int (nI i)), (1, .int (nI n)), (0, .ref 8)] [] (vpM M (lN c) p) 0 0 (PL M (pLet B L j c p)) := by
  have hL1 := hS.2.2.2.1
  have hL2 := hS.2.2.2.2.1
  intro j
  induction j with
  | zero =>
    intro i c p hi hpl
    refine aw_iload_n dX1_takeWord_49 0 rfl ?_
    refine aw_iload_n dX1_takeWord_50 1 rfl ?_
    refine aw_icmp_geN i n 124 dX1_takeWord_51 (by decide) rfl rfl (by omega) (by omega) (fun c1 => ?_) (fun c1 => absurd (by omega) c1)
    refine aw_iconst (v := 1) dX1_takeWord_124 (by decide) ?_
    refine aw_zret dX1_takeWord_125 rfl rfl (Nat.zero_le _) (Nat.zero_le _) ?_
    exact ⟨rfl, rfl⟩
  | succ j ih =>
    intro i c p hi hpl
    unfold pLet
    by_cases cl : p < L
    · have hb := (hS.2.2.2.2.2.2.2 p cl).2
      by_cases c1 : 97 ≤ B p
      · by_cases c2 : B p ≤ 122
        · rw [if_pos ⟨cl, c1, c2⟩]
          have q := ih (i + 1) (27 * c + (B p - 96)) (p + 1) (by omega) (by omega)
          rw [← vpM_2 M (lN c) (lN (27 * c + (B p - 96))) p (p + 1)] at q
          have ev : ((lN (27 * c + B p)) - 97) + 1 = lN (27 * c + (B p - 96)) := by
            show ((lN (27 * c + B p)) - lN 97) + lN 1 = _
            rw [lN_sb (by omega), lN_ad, show 27 * c + B p - 97 + 1 = 27 * c + (B p - 96) by omega]
          refine aw_iload_n dX1_takeWord_49 0 rfl ?_
          refine aw_iload_n dX1_takeWord_50 1 rfl ?_
          refine aw_icmp_geN i n 124 dX1_takeWord_51 (by decide) rfl rfl (by omega) (by omega) (fun c1 => absurd c1 (by omega)) (fun c1 => ?_)
          refine aw_aload_n dX1_takeWord_54 2 rfl ?_
          refine aw_getR (b := so) dX1_takeWord_55 fl_X1_31 rfl ((hS.v (lN c) p).1.s 8 (by decide)) ((hS.v (lN c) p).1.n 8 (by decide)) (hS.v (lN c) p).2.1 ?_
          refine aw_aload_n dX1_takeWord_58 2 rfl ?_
          refine aw_getI dX1_takeWord_59 fl_X1_21 ((hS.v (lN c) p).1.s 8 (by decide)) ((hS.v (lN c) p).1.n 8 (by decide)) ?_
          refine aw_topE (vpM_p M (lN c) p) ?_
          refine aw_callVi [.int (nI p)] [] (sp_at (d := d - 1) (hS.v (lN c) p) cl) dX1_takeWord_62 ml_X1_36 im_X3_at (hS.v (lN c) p).2.2.1.1 (hS.v (lN c) p).2.2.1.n0 rfl rfl (dl1 (d := d) (by omega)) rfl rfl (Nat.le_of_ble_eq_true rfl) rfl rfl (Nat.zero_le _) (Nat.zero_le _) ?_
          refine aw_istore_n [(3, .int (nI (B p))), (2, .int (nI i)), (1, .int (nI n)), (0, .ref 8)] dX1_takeWord_65 (Nat.le_of_ble_eq_true rfl) rfl ?_
          refine aw_iload_n dX1_takeWord_66 0 rfl ?_
          refine aw_bipush (v := 97) dX1_takeWord_67 (by decide) ?_
          refine aw_icmp_ltN (B p) 97 78 dX1_takeWord_69 (by decide) rfl rfl (by omega) (by omega) (fun c2 => absurd c2 (by omega)) (fun c2 => ?_)
          refine aw_iload_n dX1_takeWord_72 0 rfl ?_
          refine aw_bipush (v := 122) dX1_takeWord_73 (by decide) ?_
          refine aw_icmp_leN (B p) 122 87 dX1_takeWord_75 (by decide) rfl rfl (by omega) (by omega) (fun c3 => ?_) (fun c3 => absurd (by omega) c3)
          refine aw_aload_n dX1_takeWord_87 3 rfl ?_
          refine aw_ldc2 dX1_takeWord_88 kc_X1_106 ?_
          refine aw_aload_n dX1_takeWord_91 3 rfl ?_
          refine aw_getL dX1_takeWord_92 fl_X1_27 ((hS.v (lN c) p).1.s 8 (by decide)) ((hS.v (lN c) p).1.n 8 (by decide)) ?_
          refine aw_toplE (vpM_v M (lN c) p) ?_
          refine aw_lmulN 27 c dX1_takeWord_95 rfl rfl ?_
          refine aw_iload_n dX1_takeWord_96 0 rfl ?_
          refine aw_i2lN (B p) dX1_takeWord_97 rfl (by omega) ?_
          refine aw_laddN (27 * c) (B p) dX1_takeWord_98 rfl rfl ?_
          refine aw_ldc2 dX1_takeWord_99 kc_X1_108 ?_
          refine aw_lsub dX1_takeWord_102 ?_
          refine aw_lconst (v := 1) dX1_takeWord_103 (by decide) ?_
          refine aw_ladd dX1_takeWord_104 ?_
          refine aw_toplE ev ?_
          refine aw_putL dX1_takeWord_105 fl_X1_27 (Or.inl rfl) ((hS.v (lN c) p).1.s 8 (by decide)) ((hS.v (lN c) p).1.n 8 (by decide)) ?_
          refine aw_aload_n dX1_takeWord_108 3 rfl ?_
          refine aw_dup dX1_takeWord_109 rfl ?_
          refine aw_getI dX1_takeWord_110 fl_X1_21 (((hS.v (lN c) p).l 5 (lN (27 * c + (B p - 96)))).1.s 8 (by decide)) (((hS.v (lN c) p).l 5 (lN (27 * c + (B p - 96)))).1.n 8 (by decide)) ?_
          refine aw_topE (vpM_p M (lN c) p) ?_
          refine aw_iconst (v := 1) dX1_takeWord_113 (by decide) ?_
          refine aw_iaddN p 1 dX1_takeWord_114 rfl rfl ?_
          refine aw_putI dX1_takeWord_115 fl_X1_21 (Or.inl rfl) (((hS.v (lN c) p).l 5 (lN (27 * c + (B p - 96)))).1.s 8 (by decide)) (((hS.v (lN c) p).l 5 (lN (27 * c + (B p - 96)))).1.n 8 (by decide)) ?_
          refine aw_iincN i 1 [(2, .int (nI (i + 1))), (3, .int (nI (B p))), (1, .int (nI n)), (0, .ref 8)] dX1_takeWord_118 1 rfl rfl rfl (Nat.le_of_ble_eq_true rfl) rfl ?_
          refine aw_goto 49 dX1_takeWord_121 (by decide) ?_
          refine aw_sub [0, 2, 3] rfl ?_
          exact q
        · rw [if_neg (fun z => c2 z.2.2)]
          refine aw_iload_n dX1_takeWord_49 0 rfl ?_
          refine aw_iload_n dX1_takeWord_50 1 rfl ?_
          refine aw_icmp_geN i n 124 dX1_takeWord_51 (by decide) rfl rfl (by omega) (by omega) (fun c1 => absurd c1 (by omega)) (fun c1 => ?_)
          refine aw_aload_n dX1_takeWord_54 2 rfl ?_
          refine aw_getR (b := so) dX1_takeWord_55 fl_X1_31 rfl ((hS.v (lN c) p).1.s 8 (by decide)) ((hS.v (lN c) p).1.n 8 (by decide)) (hS.v (lN c) p).2.1 ?_
          refine aw_aload_n dX1_takeWord_58 2 rfl ?_
          refine aw_getI dX1_takeWord_59 fl_X1_21 ((hS.v (lN c) p).1.s 8 (by decide)) ((hS.v (lN c) p).1.n 8 (by decide)) ?_
          refine aw_topE (vpM_p M (lN c) p) ?_
          refine aw_callVi [.int (nI p)] [] (sp_at (d := d - 1) (hS.v (lN c) p) cl) dX1_takeWord_62 ml_X1_36 im_X3_at (hS.v (lN c) p).2.2.1.1 (hS.v (lN c) p).2.2.1.n0 rfl rfl (dl1 (d := d) (by omega)) rfl rfl (Nat.le_of_ble_eq_true rfl) rfl rfl (Nat.zero_le _) (Nat.zero_le _) ?_
          refine aw_istore_n [(3, .int (nI (B p))), (2, .int (nI i)), (1, .int (nI n)), (0, .ref 8)] dX1_takeWord_65 (Nat.le_of_ble_eq_true rfl) rfl ?_
          refine aw_iload_n dX1_takeWord_66 0 rfl ?_
          refine aw_bipush (v := 97) dX1_takeWord_67 (by decide) ?_
          refine aw_icmp_ltN (B p) 97 78 dX1_takeWord_69 (by decide) rfl rfl (by omega) (by omega) (fun c2 => absurd c2 (by omega)) (fun c2 => ?_)
          refine aw_iload_n dX1_takeWord_72 0 rfl ?_
          refine aw_bipush (v := 122) dX1_takeWord_73 (by decide) ?_
          refine aw_icmp_leN (B p) 122 87 dX1_takeWord_75 (by decide) rfl rfl (by omega) (by omega) (fun c3 => absurd c3 (by omega)) (fun c3 => ?_)
          refine aw_aload_n dX1_takeWord_78 3 rfl ?_
          refine aw_aload_n dX1_takeWord_79 3 rfl ?_
          refine aw_getI dX1_takeWord_80 fl_X1_21 ((hS.v (lN c) p).1.s 8 (by decide)) ((hS.v (lN c) p).1.n 8 (by decide)) ?_
          refine aw_topE (vpM_p M (lN c) p) ?_
          refine aw_callVi [.int (nI p)] [] (sp_X1_failAt (d := d - 1) (nI p) (hS.v (lN c) p).1) dX1_takeWord_83 ml_X1_49 im_X1_failAt ((hS.v (lN c) p).1.s 8 (by decide)) ((hS.v (lN c) p).1.n 8 (by decide)) rfl rfl (dl1 (d := d) (by omega)) rfl rfl (Nat.le_of_ble_eq_true rfl) rfl rfl (Nat.zero_le _) (Nat.zero_le _) ?_
          refine aw_zret dX1_takeWord_86 rfl rfl (Nat.zero_le _) (Nat.zero_le _) ?_
          exact ⟨rfl, Er_v (Er_f _ p)⟩
      · rw [if_neg (fun z => c1 z.2.1)]
        refine aw_iload_n dX1_takeWord_49 0 rfl ?_
        refine aw_iload_n dX1_takeWord_50 1 rfl ?_
        refine aw_icmp_geN i n 124 dX1_takeWord_51 (by decide) rfl rfl (by omega) (by omega) (fun c1 => absurd c1 (by omega)) (fun c1 => ?_)
        refine aw_aload_n dX1_takeWord_54 2 rfl ?_
        refine aw_getR (b := so) dX1_takeWord_55 fl_X1_31 rfl ((hS.v (lN c) p).1.s 8 (by decide)) ((hS.v (lN c) p).1.n 8 (by decide)) (hS.v (lN c) p).2.1 ?_
        refine aw_aload_n dX1_takeWord_58 2 rfl ?_
        refine aw_getI dX1_takeWord_59 fl_X1_21 ((hS.v (lN c) p).1.s 8 (by decide)) ((hS.v (lN c) p).1.n 8 (by decide)) ?_
        refine aw_topE (vpM_p M (lN c) p) ?_
        refine aw_callVi [.int (nI p)] [] (sp_at (d := d - 1) (hS.v (lN c) p) cl) dX1_takeWord_62 ml_X1_36 im_X3_at (hS.v (lN c) p).2.2.1.1 (hS.v (lN c) p).2.2.1.n0 rfl rfl (dl1 (d := d) (by omega)) rfl rfl (Nat.le_of_ble_eq_true rfl) rfl rfl (Nat.zero_le _) (Nat.zero_le _) ?_
        refine aw_istore_n [(3, .int (nI (B p))), (2, .int (nI i)), (1, .int (nI n)), (0, .ref 8)] dX1_takeWord_65 (Nat.le_of_ble_eq_true rfl) rfl ?_
        refine aw_iload_n dX1_takeWord_66 0 rfl ?_
        refine aw_bipush (v := 97) dX1_takeWord_67 (by decide) ?_
        refine aw_icmp_ltN (B p) 97 78 dX1_takeWord_69 (by decide) rfl rfl (by omega) (by omega) (fun c2 => ?_) (fun c2 => absurd (by omega) c2)
        refine aw_aload_n dX1_takeWord_78 3 rfl ?_
        refine aw_aload_n dX1_takeWord_79 3 rfl ?_
        refine aw_getI dX1_takeWord_80 fl_X1_21 ((hS.v (lN c) p).1.s 8 (by decide)) ((hS.v (lN c) p).1.n 8 (by decide)) ?_
        refine aw_topE (vpM_p M (lN c) p) ?_
        refine aw_callVi [.int (nI p)] [] (sp_X1_failAt (d := d - 1) (nI p) (hS.v (lN c) p).1) dX1_takeWord_83 ml_X1_49 im_X1_failAt ((hS.v (lN c) p).1.s 8 (by decide)) ((hS.v (lN c) p).1.n 8 (by decide)) rfl rfl (dl1 (d := d) (by omega)) rfl rfl (Nat.le_of_ble_eq_true rfl) rfl rfl (Nat.zero_le _) (Nat.zero_le _) ?_
        refine aw_zret dX1_takeWord_86 rfl rfl (Nat.zero_le _) (Nat.zero_le _) ?_
        exact ⟨rfl, Er_v (Er_f _ p)⟩
    · rw [if_neg (fun z => cl z.1)]
      refine aw_iload_n dX1_takeWord_49 0 rfl ?_
      refine aw_iload_n dX1_takeWord_50 1 rfl ?_
      refine aw_icmp_geN i n 124 dX1_takeWord_51 (by decide) rfl rfl (by omega) (by omega) (fun c1 => absurd c1 (by omega)) (fun c1 => ?_)
      refine aw_aload_n dX1_takeWord_54 2 rfl ?_
      refine aw_getR (b := so) dX1_takeWord_55 fl_X1_31 rfl ((hS.v (lN c) p).1.s 8 (by decide)) ((hS.v (lN c) p).1.n 8 (by decide)) (hS.v (lN c) p).2.1 ?_
      refine aw_aload_n dX1_takeWord_58 2 rfl ?_
      refine aw_getI dX1_takeWord_59 fl_X1_21 ((hS.v (lN c) p).1.s 8 (by decide)) ((hS.v (lN c) p).1.n 8 (by decide)) ?_
      refine aw_topE (vpM_p M (lN c) p) ?_
      refine aw_callVi [.int (nI p)] [] (sp_atn (d := d - 1) (hS.v (lN c) p) cl (by omega)) dX1_takeWord_62 ml_X1_36 im_X3_at (hS.v (lN c) p).2.2.1.1 (hS.v (lN c) p).2.2.1.n0 rfl rfl (dl1 (d := d) (by omega)) rfl rfl (Nat.le_of_ble_eq_true rfl) rfl rfl (Nat.zero_le _) (Nat.zero_le _) ?_
      refine aw_istore_n [(3, .int (-1)), (2, .int (nI i)), (1, .int (nI n)), (0, .ref 8)] dX1_takeWord_65 (Nat.le_of_ble_eq_true rfl) rfl ?_
      refine aw_iload_n dX1_takeWord_66 0 rfl ?_
      refine aw_bipush (v := 97) dX1_takeWord_67 (by decide) ?_
      refine aw_icmp_lt 78 dX1_takeWord_69 (by decide) (fun c2 => ?_) (fun c2 => absurd (by decide) c2)
      refine aw_aload_n dX1_takeWord_78 3 rfl ?_
      refine aw_aload_n dX1_takeWord_79 3 rfl ?_
      refine aw_getI dX1_takeWord_80 fl_X1_21 ((hS.v (lN c) p).1.s 8 (by decide)) ((hS.v (lN c) p).1.n 8 (by decide)) ?_
      refine aw_topE (vpM_p M (lN c) p) ?_
      refine aw_callVi [.int (nI p)] [] (sp_X1_failAt (d := d - 1) (nI p) (hS.v (lN c) p).1) dX1_takeWord_83 ml_X1_49 im_X1_failAt ((hS.v (lN c) p).1.s 8 (by decide)) ((hS.v (lN c) p).1.n 8 (by decide)) rfl rfl (dl1 (d := d) (by omega)) rfl rfl (Nat.le_of_ble_eq_true rfl) rfl rfl (Nat.zero_le _) (Nat.zero_le _) ?_
      refine aw_zret dX1_takeWord_86 rfl rfl (Nat.zero_le _) (Nat.zero_le _) ?_
      exact ⟨rfl, Er_v (Er_f _ p)⟩
theorem sp_tw {d : Nat} (hd : 1 ≤ d) {M : xM} {so N : Nat} {B : Nat → Nat} {L : Nat} {p : Nat} (hS : RdS M so N B L) (hp : mI M 8 2 = nI p) (hpl : p ≤ L) : Sp (fX1_takeWord d) [.ref 8] M (PL M (pWord B L p)) := by
  refine Sp.of pn_X1 (Nat.le_of_ble_eq_true rfl) (fun h => Bool.noConfusion h) ?_
  have hL1 := hS.2.2.2.1
  have hL2 := hS.2.2.2.2.1
  unfold pWord
  by_cases cl : p < L
  · have hb := (hS.2.2.2.2.2.2.2 p cl).2
    by_cases c1 : 1 ≤ B p
    · by_cases c2 : B p ≤ 7
      · rw [if_pos ⟨cl, c1, c2⟩]
        refine aw_aload_n dX1_takeWord_0 0 rfl ?_
        refine aw_getR (b := so) dX1_takeWord_1 fl_X1_31 rfl (hS.1.s 8 (by decide)) (hS.1.n 8 (by decide)) hS.2.1 ?_
        refine aw_aload_n dX1_takeWord_4 0 rfl ?_
        refine aw_getI dX1_takeWord_5 fl_X1_21 (hS.1.s 8 (by decide)) (hS.1.n 8 (by decide)) ?_
        refine aw_topE hp ?_
        refine aw_callVi [.int (nI p)] [] (sp_at (d := d - 1) hS cl) dX1_takeWord_8 ml_X1_36 im_X3_at hS.2.2.1.1 hS.2.2.1.n0 rfl rfl (dl1 (d := d) (by omega)) rfl rfl (Nat.le_of_ble_eq_true rfl) rfl rfl (Nat.zero_le _) (Nat.zero_le _) ?_
        refine aw_istore_n [(1, .int (nI (B p))), (0, .ref 8)] dX1_takeWord_11 (Nat.le_of_ble_eq_true rfl) rfl ?_
        refine aw_iload_n dX1_takeWord_12 0 rfl ?_
        refine aw_iconst (v := 1) dX1_takeWord_13 (by decide) ?_
        refine aw_icmp_ltN (B p) 1 23 dX1_takeWord_14 (by decide) rfl rfl (by omega) (by omega) (fun c1 => absurd c1 (by omega)) (fun c1 => ?_)
        refine aw_iload_n dX1_takeWord_17 0 rfl ?_
        refine aw_bipush (v := 7) dX1_takeWord_18 (by decide) ?_
        refine aw_icmp_leN (B p) 7 32 dX1_takeWord_20 (by decide) rfl rfl (by omega) (by omega) (fun c2 => ?_) (fun c2 => absurd (by omega) c2)
        refine aw_aload_n dX1_takeWord_32 1 rfl ?_
        refine aw_dup dX1_takeWord_33 rfl ?_
        refine aw_getI dX1_takeWord_34 fl_X1_21 (hS.1.s 8 (by decide)) (hS.1.n 8 (by decide)) ?_
        refine aw_topE hp ?_
        refine aw_iconst (v := 1) dX1_takeWord_37 (by decide) ?_
        refine aw_iaddN p 1 dX1_takeWord_38 rfl rfl ?_
        refine aw_putI dX1_takeWord_39 fl_X1_21 (Or.inl rfl) (hS.1.s 8 (by decide)) (hS.1.n 8 (by decide)) ?_
        refine aw_aload_n dX1_takeWord_42 1 rfl ?_
        refine aw_lconst (v := 0) dX1_takeWord_43 (by decide) ?_
        refine aw_putL dX1_takeWord_44 fl_X1_27 (Or.inl rfl) ((hS.i 2 (nI (p + 1))).1.s 8 (by decide)) ((hS.i 2 (nI (p + 1))).1.n 8 (by decide)) ?_
        refine aw_iconst (v := 0) dX1_takeWord_47 (by decide) ?_
        refine aw_istore_n [(2, .int 0), (1, .int (nI (B p))), (0, .ref 8)] dX1_takeWord_48 (Nat.le_of_ble_eq_true rfl) rfl ?_
        exact lp_tw hd hS c2 (B p) 0 0 (p + 1) (by omega) (by omega)
      · rw [if_neg (fun z => c2 z.2.2)]
        refine aw_aload_n dX1_takeWord_0 0 rfl ?_
        refine aw_getR (b := so) dX1_takeWord_1 fl_X1_31 rfl (hS.1.s 8 (by decide)) (hS.1.n 8 (by decide)) hS.2.1 ?_
        refine aw_aload_n dX1_takeWord_4 0 rfl ?_
        refine aw_getI dX1_takeWord_5 fl_X1_21 (hS.1.s 8 (by decide)) (hS.1.n 8 (by decide)) ?_
        refine aw_topE hp ?_
        refine aw_callVi [.int (nI p)] [] (sp_at (d := d - 1) hS cl) dX1_takeWord_8 ml_X1_36 im_X3_at hS.2.2.1.1 hS.2.2.1.n0 rfl rfl (dl1 (d := d) (by omega)) rfl rfl (Nat.le_of_ble_eq_true rfl) rfl rfl (Nat.zero_le _) (Nat.zero_le _) ?_
        refine aw_istore_n [(1, .int (nI (B p))), (0, .ref 8)] dX1_takeWord_11 (Nat.le_of_ble_eq_true rfl) rfl ?_
        refine aw_iload_n dX1_takeWord_12 0 rfl ?_
        refine aw_iconst (v := 1) dX1_takeWord_13 (by decide) ?_
        refine aw_icmp_ltN (B p) 1 23 dX1_takeWord_14 (by decide) rfl rfl (by omega) (by omega) (fun c1 => absurd c1 (by omega)) (fun c1 => ?_)
        refine aw_iload_n dX1_takeWord_17 0 rfl ?_
        refine aw_bipush (v := 7) dX1_takeWord_18 (by decide) ?_
        refine aw_icmp_leN (B p) 7 32 dX1_takeWord_20 (by decide) rfl rfl (by omega) (by omega) (fun c2 => absurd c2 (by omega)) (fun c2 => ?_)
        refine aw_aload_n dX1_takeWord_23 1 rfl ?_
        refine aw_aload_n dX1_takeWord_24 1 rfl ?_
        refine aw_getI dX1_takeWord_25 fl_X1_21 (hS.1.s 8 (by decide)) (hS.1.n 8 (by decide)) ?_
        refine aw_topE hp ?_
        refine aw_callVi [.int (nI p)] [] (sp_X1_failAt (d := d - 1) (nI p) hS.1) dX1_takeWord_28 ml_X1_49 im_X1_failAt (hS.1.s 8 (by decide)) (hS.1.n 8 (by decide)) rfl rfl (dl1 (d := d) (by omega)) rfl rfl (Nat.le_of_ble_eq_true rfl) rfl rfl (Nat.zero_le _) (Nat.zero_le _) ?_
        refine aw_zret dX1_takeWord_31 rfl rfl (Nat.zero_le _) (Nat.zero_le _) ?_
        exact ⟨rfl, Er_f M p⟩
    · rw [if_neg (fun z => c1 z.2.1)]
      refine aw_aload_n dX1_takeWord_0 0 rfl ?_
      refine aw_getR (b := so) dX1_takeWord_1 fl_X1_31 rfl (hS.1.s 8 (by decide)) (hS.1.n 8 (by decide)) hS.2.1 ?_
      refine aw_aload_n dX1_takeWord_4 0 rfl ?_
      refine aw_getI dX1_takeWord_5 fl_X1_21 (hS.1.s 8 (by decide)) (hS.1.n 8 (by decide)) ?_
      refine aw_topE hp ?_
      refine aw_callVi [.int (nI p)] [] (sp_at (d := d - 1) hS cl) dX1_takeWord_8 ml_X1_36 im_X3_at hS.2.2.1.1 hS.2.2.1.n0 rfl rfl (dl1 (d := d) (by omega)) rfl rfl (Nat.le_of_ble_eq_true rfl) rfl rfl (Nat.zero_le _) (Nat.zero_le _) ?_
      refine aw_istore_n [(1, .int (nI (B p))), (0, .ref 8)] dX1_takeWord_11 (Nat.le_of_ble_eq_true rfl) rfl ?_
      refine aw_iload_n dX1_takeWord_12 0 rfl ?_
      refine aw_iconst (v := 1) dX1_takeWord_13 (by decide) ?_
      refine aw_icmp_ltN (B p) 1 23 dX1_takeWord_14 (by decide) rfl rfl (by omega) (by omega) (fun c1 => ?_) (fun c1 => absurd (by omega) c1)
      refine aw_aload_n dX1_takeWord_23 1 rfl ?_
      refine aw_aload_n dX1_takeWord_24 1 rfl ?_
      refine aw_getI dX1_takeWord_25 fl_X1_21 (hS.1.s 8 (by decide)) (hS.1.n 8 (by decide)) ?_
      refine aw_topE hp ?_
      refine aw_callVi [.int (nI p)] [] (sp_X1_failAt (d := d - 1) (nI p) hS.1) dX1_takeWord_28 ml_X1_49 im_X1_failAt (hS.1.s 8 (by decide)) (hS.1.n 8 (by decide)) rfl rfl (dl1 (d := d) (by omega)) rfl rfl (Nat.le_of_ble_eq_true rfl) rfl rfl (Nat.zero_le _) (Nat.zero_le _) ?_
      refine aw_zret dX1_takeWord_31 rfl rfl (Nat.zero_le _) (Nat.zero_le _) ?_
      exact ⟨rfl, Er_f M p⟩
  · rw [if_neg (fun z => cl z.1)]
    refine aw_aload_n dX1_takeWord_0 0 rfl ?_
    refine aw_getR (b := so) dX1_takeWord_1 fl_X1_31 rfl (hS.1.s 8 (by decide)) (hS.1.n 8 (by decide)) hS.2.1 ?_
    refine aw_aload_n dX1_takeWord_4 0 rfl ?_
    refine aw_getI dX1_takeWord_5 fl_X1_21 (hS.1.s 8 (by decide)) (hS.1.n 8 (by decide)) ?_
    refine aw_topE hp ?_
    refine aw_callVi [.int (nI p)] [] (sp_atn (d := d - 1) hS cl (by omega)) dX1_takeWord_8 ml_X1_36 im_X3_at hS.2.2.1.1 hS.2.2.1.n0 rfl rfl (dl1 (d := d) (by omega)) rfl rfl (Nat.le_of_ble_eq_true rfl) rfl rfl (Nat.zero_le _) (Nat.zero_le _) ?_
    refine aw_istore_n [(1, .int (-1)), (0, .ref 8)] dX1_takeWord_11 (Nat.le_of_ble_eq_true rfl) rfl ?_
    refine aw_iload_n dX1_takeWord_12 0 rfl ?_
    refine aw_iconst (v := 1) dX1_takeWord_13 (by decide) ?_
    refine aw_icmp_lt 23 dX1_takeWord_14 (by decide) (fun c1 => ?_) (fun c1 => absurd (by decide) c1)
    refine aw_aload_n dX1_takeWord_23 1 rfl ?_
    refine aw_aload_n dX1_takeWord_24 1 rfl ?_
    refine aw_getI dX1_takeWord_25 fl_X1_21 (hS.1.s 8 (by decide)) (hS.1.n 8 (by decide)) ?_
    refine aw_topE hp ?_
    refine aw_callVi [.int (nI p)] [] (sp_X1_failAt (d := d - 1) (nI p) hS.1) dX1_takeWord_28 ml_X1_49 im_X1_failAt (hS.1.s 8 (by decide)) (hS.1.n 8 (by decide)) rfl rfl (dl1 (d := d) (by omega)) rfl rfl (Nat.le_of_ble_eq_true rfl) rfl rfl (Nat.zero_le _) (Nat.zero_le _) ?_
    refine aw_zret dX1_takeWord_31 rfl rfl (Nat.zero_le _) (Nat.zero_le _) ?_
    exact ⟨rfl, Er_f M p⟩
theorem m1_lt : ∀ a, a < 4 → Int32.toInt64 (-1) < lN a := by decide
theorem sp_tb {d : Nat} (hd : 1 ≤ d) {M : xM} {so N : Nat} {B : Nat → Nat} {L : Nat} {p a : Nat} (hS : RdS M so N B L) (hp : mI M 8 2 = nI p) (hpl : p ≤ L) (ha : a < 4) : Sp (fX1_takeBead d) [.ref 8, .int (nI a)] M (PL M (pBead B L a p)) := by
  refine Sp.of pn_X1 (Nat.le_of_ble_eq_true rfl) (fun h => Bool.noConfusion h) ?_
  have hL1 := hS.2.2.2.1
  have hL2 := hS.2.2.2.2.1
  unfold pBead
  by_cases cl : p < L
  · have hb := (hS.2.2.2.2.2.2.2 p cl).2
    by_cases c1 : a ≤ B p
    · by_cases c2 : B p < 6
      · rw [if_pos ⟨cl, c1, c2⟩]
        refine aw_aload_n dX1_takeBead_0 0 rfl ?_
        refine aw_aload_n dX1_takeBead_1 0 rfl ?_
        refine aw_getR (b := so) dX1_takeBead_2 fl_X1_31 rfl (hS.1.s 8 (by decide)) (hS.1.n 8 (by decide)) hS.2.1 ?_
        refine aw_aload_n dX1_takeBead_5 0 rfl ?_
        refine aw_getI dX1_takeBead_6 fl_X1_21 (hS.1.s 8 (by decide)) (hS.1.n 8 (by decide)) ?_
        refine aw_topE hp ?_
        refine aw_callVi [.int (nI p)] [.ref 8] (sp_at (d := d - 1) hS cl) dX1_takeBead_9 ml_X1_36 im_X3_at hS.2.2.1.1 hS.2.2.1.n0 rfl rfl (dl1 (d := d) (by omega)) rfl rfl (Nat.le_of_ble_eq_true rfl) rfl rfl (Nat.zero_le _) (Nat.zero_le _) ?_
        refine aw_i2lN (B p) dX1_takeBead_12 rfl (by omega) ?_
        refine aw_putL dX1_takeBead_13 fl_X1_27 (Or.inl rfl) (hS.1.s 8 (by decide)) (hS.1.n 8 (by decide)) ?_
        refine aw_aload_n dX1_takeBead_16 0 rfl ?_
        refine aw_getL dX1_takeBead_17 fl_X1_27 ((hS.l 5 (lN (B p))).1.s 8 (by decide)) ((hS.l 5 (lN (B p))).1.n 8 (by decide)) ?_
        refine aw_toplE (xup_s M.2.1 8 5 (lN (B p))) ?_
        refine aw_iload_n dX1_takeBead_20 1 rfl ?_
        refine aw_i2lN a dX1_takeBead_21 rfl (by omega) ?_
        refine aw_lltN (B p) a 37 dX1_takeBead_22 dX1_takeBead_23 (by decide) rfl rfl (by omega) (by omega) (fun c1 => absurd c1 (by omega)) (fun c1 => ?_)
        refine aw_aload_n dX1_takeBead_26 0 rfl ?_
        refine aw_getL dX1_takeBead_27 fl_X1_27 ((hS.l 5 (lN (B p))).1.s 8 (by decide)) ((hS.l 5 (lN (B p))).1.n 8 (by decide)) ?_
        refine aw_toplE (xup_s M.2.1 8 5 (lN (B p))) ?_
        refine aw_ldc2 dX1_takeBead_30 kc_X1_110 ?_
        refine aw_lltN (B p) 6 46 dX1_takeBead_33 dX1_takeBead_34 (by decide) rfl rfl (by omega) (by omega) (fun c2 => ?_) (fun c2 => absurd (by omega) c2)
        refine aw_aload_n dX1_takeBead_46 0 rfl ?_
        refine aw_dup dX1_takeBead_47 rfl ?_
        refine aw_getI dX1_takeBead_48 fl_X1_21 ((hS.l 5 (lN (B p))).1.s 8 (by decide)) ((hS.l 5 (lN (B p))).1.n 8 (by decide)) ?_
        refine aw_topE hp ?_
        refine aw_iconst (v := 1) dX1_takeBead_51 (by decide) ?_
        refine aw_iaddN p 1 dX1_takeBead_52 rfl rfl ?_
        refine aw_putI dX1_takeBead_53 fl_X1_21 (Or.inl rfl) ((hS.l 5 (lN (B p))).1.s 8 (by decide)) ((hS.l 5 (lN (B p))).1.n 8 (by decide)) ?_
        refine aw_iconst (v := 1) dX1_takeBead_56 (by decide) ?_
        refine aw_zret dX1_takeBead_57 rfl rfl (Nat.zero_le _) (Nat.zero_le _) ?_
        exact ⟨rfl, rfl⟩
      · rw [if_neg (fun z => c2 z.2.2)]
        refine aw_aload_n dX1_takeBead_0 0 rfl ?_
        refine aw_aload_n dX1_takeBead_1 0 rfl ?_
        refine aw_getR (b := so) dX1_takeBead_2 fl_X1_31 rfl (hS.1.s 8 (by decide)) (hS.1.n 8 (by decide)) hS.2.1 ?_
        refine aw_aload_n dX1_takeBead_5 0 rfl ?_
        refine aw_getI dX1_takeBead_6 fl_X1_21 (hS.1.s 8 (by decide)) (hS.1.n 8 (by decide)) ?_
        refine aw_topE hp ?_
        refine aw_callVi [.int (nI p)] [.ref 8] (sp_at (d := d - 1) hS cl) dX1_takeBead_9 ml_X1_36 im_X3_at hS.2.2.1.1 hS.2.2.1.n0 rfl rfl (dl1 (d := d) (by omega)) rfl rfl (Nat.le_of_ble_eq_true rfl) rfl rfl (Nat.zero_le _) (Nat.zero_le _) ?_
        refine aw_i2lN (B p) dX1_takeBead_12 rfl (by omega) ?_
        refine aw_putL dX1_takeBead_13 fl_X1_27 (Or.inl rfl) (hS.1.s 8 (by decide)) (hS.1.n 8 (by decide)) ?_
        refine aw_aload_n dX1_takeBead_16 0 rfl ?_
        refine aw_getL dX1_takeBead_17 fl_X1_27 ((hS.l 5 (lN (B p))).1.s 8 (by decide)) ((hS.l 5 (lN (B p))).1.n 8 (by decide)) ?_
        refine aw_toplE (xup_s M.2.1 8 5 (lN (B p))) ?_
        refine aw_iload_n dX1_takeBead_20 1 rfl ?_
        refine aw_i2lN a dX1_takeBead_21 rfl (by omega) ?_
        refine aw_lltN (B p) a 37 dX1_takeBead_22 dX1_takeBead_23 (by decide) rfl rfl (by omega) (by omega) (fun c1 => absurd c1 (by omega)) (fun c1 => ?_)
        refine aw_aload_n dX1_takeBead_26 0 rfl ?_
        refine aw_getL dX1_takeBead_27 fl_X1_27 ((hS.l 5 (lN (B p))).1.s 8 (by decide)) ((hS.l 5 (lN (B p))).1.n 8 (by decide)) ?_
        refine aw_toplE (xup_s M.2.1 8 5 (lN (B p))) ?_
        refine aw_ldc2 dX1_takeBead_30 kc_X1_110 ?_
        refine aw_lltN (B p) 6 46 dX1_takeBead_33 dX1_takeBead_34 (by decide) rfl rfl (by omega) (by omega) (fun c2 => absurd c2 (by omega)) (fun c2 => ?_)
        refine aw_aload_n dX1_takeBead_37 0 rfl ?_
        refine aw_aload_n dX1_takeBead_38 0 rfl ?_
        refine aw_getI dX1_takeBead_39 fl_X1_21 ((hS.l 5 (lN (B p))).1.s 8 (by decide)) ((hS.l 5 (lN (B p))).1.n 8 (by decide)) ?_
        refine aw_topE hp ?_
        refine aw_callVi [.int (nI p)] [] (sp_X1_failAt (d := d - 1) (nI p) (hS.l 5 (lN (B p))).1) dX1_takeBead_42 ml_X1_49 im_X1_failAt ((hS.l 5 (lN (B p))).1.s 8 (by decide)) ((hS.l 5 (lN (B p))).1.n 8 (by decide)) rfl rfl (dl1 (d := d) (by omega)) rfl rfl (Nat.le_of_ble_eq_true rfl) rfl rfl (Nat.zero_le _) (Nat.zero_le _) ?_
        refine aw_zret dX1_takeBead_45 rfl rfl (Nat.zero_le _) (Nat.zero_le _) ?_
        exact ⟨rfl, Er_l (Er_f _ p)⟩
    · rw [if_neg (fun z => c1 z.2.1)]
      refine aw_aload_n dX1_takeBead_0 0 rfl ?_
      refine aw_aload_n dX1_takeBead_1 0 rfl ?_
      refine aw_getR (b := so) dX1_takeBead_2 fl_X1_31 rfl (hS.1.s 8 (by decide)) (hS.1.n 8 (by decide)) hS.2.1 ?_
      refine aw_aload_n dX1_takeBead_5 0 rfl ?_
      refine aw_getI dX1_takeBead_6 fl_X1_21 (hS.1.s 8 (by decide)) (hS.1.n 8 (by decide)) ?_
      refine aw_topE hp ?_
      refine aw_callVi [.int (nI p)] [.ref 8] (sp_at (d := d - 1) hS cl) dX1_takeBead_9 ml_X1_36 im_X3_at hS.2.2.1.1 hS.2.2.1.n0 rfl rfl (dl1 (d := d) (by omega)) rfl rfl (Nat.le_of_ble_eq_true rfl) rfl rfl (Nat.zero_le _) (Nat.zero_le _) ?_
      refine aw_i2lN (B p) dX1_takeBead_12 rfl (by omega) ?_
      refine aw_putL dX1_takeBead_13 fl_X1_27 (Or.inl rfl) (hS.1.s 8 (by decide)) (hS.1.n 8 (by decide)) ?_
      refine aw_aload_n dX1_takeBead_16 0 rfl ?_
      refine aw_getL dX1_takeBead_17 fl_X1_27 ((hS.l 5 (lN (B p))).1.s 8 (by decide)) ((hS.l 5 (lN (B p))).1.n 8 (by decide)) ?_
      refine aw_toplE (xup_s M.2.1 8 5 (lN (B p))) ?_
      refine aw_iload_n dX1_takeBead_20 1 rfl ?_
      refine aw_i2lN a dX1_takeBead_21 rfl (by omega) ?_
      refine aw_lltN (B p) a 37 dX1_takeBead_22 dX1_takeBead_23 (by decide) rfl rfl (by omega) (by omega) (fun c1 => ?_) (fun c1 => absurd (by omega) c1)
      refine aw_aload_n dX1_takeBead_37 0 rfl ?_
      refine aw_aload_n dX1_takeBead_38 0 rfl ?_
      refine aw_getI dX1_takeBead_39 fl_X1_21 ((hS.l 5 (lN (B p))).1.s 8 (by decide)) ((hS.l 5 (lN (B p))).1.n 8 (by decide)) ?_
      refine aw_topE hp ?_
      refine aw_callVi [.int (nI p)] [] (sp_X1_failAt (d := d - 1) (nI p) (hS.l 5 (lN (B p))).1) dX1_takeBead_42 ml_X1_49 im_X1_failAt ((hS.l 5 (lN (B p))).1.s 8 (by decide)) ((hS.l 5 (lN (B p))).1.n 8 (by decide)) rfl rfl (dl1 (d := d) (by omega)) rfl rfl (Nat.le_of_ble_eq_true rfl) rfl rfl (Nat.zero_le _) (Nat.zero_le _) ?_
      refine aw_zret dX1_takeBead_45 rfl rfl (Nat.zero_le _) (Nat.zero_le _) ?_
      exact ⟨rfl, Er_l (Er_f _ p)⟩
  · rw [if_neg (fun z => cl z.1)]
    refine aw_aload_n dX1_takeBead_0 0 rfl ?_
    refine aw_aload_n dX1_takeBead_1 0 rfl ?_
    refine aw_getR (b := so) dX1_takeBead_2 fl_X1_31 rfl (hS.1.s 8 (by decide)) (hS.1.n 8 (by decide)) hS.2.1 ?_
    refine aw_aload_n dX1_takeBead_5 0 rfl ?_
    refine aw_getI dX1_takeBead_6 fl_X1_21 (hS.1.s 8 (by decide)) (hS.1.n 8 (by decide)) ?_
    refine aw_topE hp ?_
    refine aw_callVi [.int (nI p)] [.ref 8] (sp_atn (d := d - 1) hS cl (by omega)) dX1_takeBead_9 ml_X1_36 im_X3_at hS.2.2.1.1 hS.2.2.1.n0 rfl rfl (dl1 (d := d) (by omega)) rfl rfl (Nat.le_of_ble_eq_true rfl) rfl rfl (Nat.zero_le _) (Nat.zero_le _) ?_
    refine aw_i2l dX1_takeBead_12 ?_
    refine aw_putL dX1_takeBead_13 fl_X1_27 (Or.inl rfl) (hS.1.s 8 (by decide)) (hS.1.n 8 (by decide)) ?_
    refine aw_aload_n dX1_takeBead_16 0 rfl ?_
    refine aw_getL dX1_takeBead_17 fl_X1_27 ((hS.l 5 (Int32.toInt64 (-1))).1.s 8 (by decide)) ((hS.l 5 (Int32.toInt64 (-1))).1.n 8 (by decide)) ?_
    refine aw_toplE (xup_s M.2.1 8 5 (Int32.toInt64 (-1))) ?_
    refine aw_iload_n dX1_takeBead_20 1 rfl ?_
    refine aw_i2lN a dX1_takeBead_21 rfl (by omega) ?_
    refine aw_llt 37 dX1_takeBead_22 dX1_takeBead_23 (by decide) (fun c1 => ?_) (fun c1 => absurd (m1_lt a ha) c1)
    refine aw_aload_n dX1_takeBead_37 0 rfl ?_
    refine aw_aload_n dX1_takeBead_38 0 rfl ?_
    refine aw_getI dX1_takeBead_39 fl_X1_21 ((hS.l 5 (Int32.toInt64 (-1))).1.s 8 (by decide)) ((hS.l 5 (Int32.toInt64 (-1))).1.n 8 (by decide)) ?_
    refine aw_topE hp ?_
    refine aw_callVi [.int (nI p)] [] (sp_X1_failAt (d := d - 1) (nI p) (hS.l 5 (Int32.toInt64 (-1))).1) dX1_takeBead_42 ml_X1_49 im_X1_failAt ((hS.l 5 (Int32.toInt64 (-1))).1.s 8 (by decide)) ((hS.l 5 (Int32.toInt64 (-1))).1.n 8 (by decide)) rfl rfl (dl1 (d := d) (by omega)) rfl rfl (Nat.le_of_ble_eq_true rfl) rfl rfl (Nat.zero_le _) (Nat.zero_le _) ?_
    refine aw_zret dX1_takeBead_45 rfl rfl (Nat.zero_le _) (Nat.zero_le _) ?_
    exact ⟨rfl, Er_l (Er_f _ p)⟩
theorem sp_tl {d : Nat} (hd : 1 ≤ d) {M : xM} {so N : Nat} {B : Nat → Nat} {L : Nat} {p k u : Nat} {K : Nat → Nat} (hS : RdS M so N B L) (hp : mI M 8 2 = nI p) (hpl : p ≤ L) (hk : k < 16) (hu : mI M 8 1 = nI u) (hu2 : u ≤ 12) (hK : ∀ n, n < u → mI M (10 + 3 * n) 0 = nI (K n) ∧ K n < 16) : Sp (fX1_takeBackLink d) [.ref 8, .int (nI k)] M (PL M (pLink B L K u k p)) := by
  refine Sp.of pn_X1 (Nat.le_of_ble_eq_true rfl) (fun h => Bool.noConfusion h) ?_
  have hL1 := hS.2.2.2.1
  have hL2 := hS.2.2.2.2.1
  unfold pLink
  by_cases cl : p < L
  · have hb := (hS.2.2.2.2.2.2.2 p cl).2
    by_cases c1 : B p < u
    · have hKb := hK (B p) c1
      by_cases kk : k = 13
      · by_cases k4 : K (B p) = 4
        · rw [if_pos ⟨cl, c1, fun _ => k4⟩]
          refine aw_aload_n dX1_takeBackLink_0 0 rfl ?_
          refine aw_getR (b := so) dX1_takeBackLink_1 fl_X1_31 rfl (hS.1.s 8 (by decide)) (hS.1.n 8 (by decide)) hS.2.1 ?_
          refine aw_aload_n dX1_takeBackLink_4 0 rfl ?_
          refine aw_getI dX1_takeBackLink_5 fl_X1_21 (hS.1.s 8 (by decide)) (hS.1.n 8 (by decide)) ?_
          refine aw_topE hp ?_
          refine aw_callVi [.int (nI p)] [] (sp_at (d := d - 1) hS cl) dX1_takeBackLink_8 ml_X1_36 im_X3_at hS.2.2.1.1 hS.2.2.1.n0 rfl rfl (dl1 (d := d) (by omega)) rfl rfl (Nat.le_of_ble_eq_true rfl) rfl rfl (Nat.zero_le _) (Nat.zero_le _) ?_
          refine aw_istore_n [(2, .int (nI (B p))), (0, .ref 8), (1, .int (nI k))] dX1_takeBackLink_11 (Nat.le_of_ble_eq_true rfl) rfl ?_
          refine aw_iload_n dX1_takeBackLink_12 0 rfl ?_
          refine aw_if_lt 24 dX1_takeBackLink_13 (by decide) (fun c1 => absurd c1 (nI_nn (by omega))) (fun c1 => ?_)
          refine aw_iload_n dX1_takeBackLink_16 0 rfl ?_
          refine aw_aload_n dX1_takeBackLink_17 1 rfl ?_
          refine aw_getI dX1_takeBackLink_18 fl_X1_17 (hS.1.s 8 (by decide)) (hS.1.n 8 (by decide)) ?_
          refine aw_topE hu ?_
          refine aw_icmp_ltN (B p) u 33 dX1_takeBackLink_21 (by decide) rfl rfl (by omega) (by omega) (fun c2 => ?_) (fun c2 => absurd (by omega) c2)
          refine aw_iload_n dX1_takeBackLink_33 2 rfl ?_
          refine aw_bipush (v := 13) dX1_takeBackLink_34 (by decide) ?_
          refine aw_icmp_neN k 13 61 dX1_takeBackLink_36 (by decide) rfl rfl (by omega) (by omega) (fun c3 => absurd kk c3) (fun c3 => ?_)
          refine aw_aload_n dX1_takeBackLink_39 1 rfl ?_
          refine aw_getR (b := 9) dX1_takeBackLink_40 fl_X1_11 rfl (hS.1.s 8 (by decide)) (hS.1.n 8 (by decide)) (hS.1.r 8 0 (by decide) (by decide)) ?_
          refine aw_iload_n dX1_takeBackLink_43 0 rfl ?_
          refine aw_aaldN (B p) (10 + 3 * (B p)) dX1_takeBackLink_44 (hS.1.s 9 (by decide)) (hS.1.n 9 (by decide)) rfl (by omega) (by first | decide | omega) (hS.1.rslot (by omega)) ?_
          refine aw_getI dX1_takeBackLink_45 fl_X1_86 (hS.1.rrow (t := B p) (by omega)).1 (hS.1.rrow (t := B p) (by omega)).n0 ?_
          refine aw_topE hKb.1 ?_
          refine aw_iconst (v := 4) dX1_takeBackLink_48 (by decide) ?_
          refine aw_icmp_eqN (K (B p)) 4 61 dX1_takeBackLink_49 (by decide) rfl rfl (by omega) (by omega) (fun c4 => ?_) (fun c4 => absurd k4 c4)
          refine aw_aload_n dX1_takeBackLink_61 1 rfl ?_
          refine aw_iload_n dX1_takeBackLink_62 0 rfl ?_
          refine aw_i2lN (B p) dX1_takeBackLink_63 rfl (by omega) ?_
          refine aw_putL dX1_takeBackLink_64 fl_X1_27 (Or.inl rfl) (hS.1.s 8 (by decide)) (hS.1.n 8 (by decide)) ?_
          refine aw_aload_n dX1_takeBackLink_67 1 rfl ?_
          refine aw_dup dX1_takeBackLink_68 rfl ?_
          refine aw_getI dX1_takeBackLink_69 fl_X1_21 ((hS.l 5 (lN (B p))).1.s 8 (by decide)) ((hS.l 5 (lN (B p))).1.n 8 (by decide)) ?_
          refine aw_topE hp ?_
          refine aw_iconst (v := 1) dX1_takeBackLink_72 (by decide) ?_
          refine aw_iaddN p 1 dX1_takeBackLink_73 rfl rfl ?_
          refine aw_putI dX1_takeBackLink_74 fl_X1_21 (Or.inl rfl) ((hS.l 5 (lN (B p))).1.s 8 (by decide)) ((hS.l 5 (lN (B p))).1.n 8 (by decide)) ?_
          refine aw_iconst (v := 1) dX1_takeBackLink_77 (by decide) ?_
          refine aw_zret dX1_takeBackLink_78 rfl rfl (Nat.zero_le _) (Nat.zero_le _) ?_
          exact ⟨rfl, rfl⟩
        · rw [if_neg (fun z => k4 (z.2.2 kk))]
          refine aw_aload_n dX1_takeBackLink_0 0 rfl ?_
          refine aw_getR (b := so) dX1_takeBackLink_1 fl_X1_31 rfl (hS.1.s 8 (by decide)) (hS.1.n 8 (by decide)) hS.2.1 ?_
          refine aw_aload_n dX1_takeBackLink_4 0 rfl ?_
          refine aw_getI dX1_takeBackLink_5 fl_X1_21 (hS.1.s 8 (by decide)) (hS.1.n 8 (by decide)) ?_
          refine aw_topE hp ?_
          refine aw_callVi [.int (nI p)] [] (sp_at (d := d - 1) hS cl) dX1_takeBackLink_8 ml_X1_36 im_X3_at hS.2.2.1.1 hS.2.2.1.n0 rfl rfl (dl1 (d := d) (by omega)) rfl rfl (Nat.le_of_ble_eq_true rfl) rfl rfl (Nat.zero_le _) (Nat.zero_le _) ?_
          refine aw_istore_n [(2, .int (nI (B p))), (0, .ref 8), (1, .int (nI k))] dX1_takeBackLink_11 (Nat.le_of_ble_eq_true rfl) rfl ?_
          refine aw_iload_n dX1_takeBackLink_12 0 rfl ?_
          refine aw_if_lt 24 dX1_takeBackLink_13 (by decide) (fun c1 => absurd c1 (nI_nn (by omega))) (fun c1 => ?_)
          refine aw_iload_n dX1_takeBackLink_16 0 rfl ?_
          refine aw_aload_n dX1_takeBackLink_17 1 rfl ?_
          refine aw_getI dX1_takeBackLink_18 fl_X1_17 (hS.1.s 8 (by decide)) (hS.1.n 8 (by decide)) ?_
          refine aw_topE hu ?_
          refine aw_icmp_ltN (B p) u 33 dX1_takeBackLink_21 (by decide) rfl rfl (by omega) (by omega) (fun c2 => ?_) (fun c2 => absurd (by omega) c2)
          refine aw_iload_n dX1_takeBackLink_33 2 rfl ?_
          refine aw_bipush (v := 13) dX1_takeBackLink_34 (by decide) ?_
          refine aw_icmp_neN k 13 61 dX1_takeBackLink_36 (by decide) rfl rfl (by omega) (by omega) (fun c3 => absurd kk c3) (fun c3 => ?_)
          refine aw_aload_n dX1_takeBackLink_39 1 rfl ?_
          refine aw_getR (b := 9) dX1_takeBackLink_40 fl_X1_11 rfl (hS.1.s 8 (by decide)) (hS.1.n 8 (by decide)) (hS.1.r 8 0 (by decide) (by decide)) ?_
          refine aw_iload_n dX1_takeBackLink_43 0 rfl ?_
          refine aw_aaldN (B p) (10 + 3 * (B p)) dX1_takeBackLink_44 (hS.1.s 9 (by decide)) (hS.1.n 9 (by decide)) rfl (by omega) (by first | decide | omega) (hS.1.rslot (by omega)) ?_
          refine aw_getI dX1_takeBackLink_45 fl_X1_86 (hS.1.rrow (t := B p) (by omega)).1 (hS.1.rrow (t := B p) (by omega)).n0 ?_
          refine aw_topE hKb.1 ?_
          refine aw_iconst (v := 4) dX1_takeBackLink_48 (by decide) ?_
          refine aw_icmp_eqN (K (B p)) 4 61 dX1_takeBackLink_49 (by decide) rfl rfl (by omega) (by omega) (fun c4 => absurd c4 k4) (fun c4 => ?_)
          refine aw_aload_n dX1_takeBackLink_52 1 rfl ?_
          refine aw_aload_n dX1_takeBackLink_53 1 rfl ?_
          refine aw_getI dX1_takeBackLink_54 fl_X1_21 (hS.1.s 8 (by decide)) (hS.1.n 8 (by decide)) ?_
          refine aw_topE hp ?_
          refine aw_callVi [.int (nI p)] [] (sp_X1_failAt (d := d - 1) (nI p) hS.1) dX1_takeBackLink_57 ml_X1_49 im_X1_failAt (hS.1.s 8 (by decide)) (hS.1.n 8 (by decide)) rfl rfl (dl1 (d := d) (by omega)) rfl rfl (Nat.le_of_ble_eq_true rfl) rfl rfl (Nat.zero_le _) (Nat.zero_le _) ?_
          refine aw_zret dX1_takeBackLink_60 rfl rfl (Nat.zero_le _) (Nat.zero_le _) ?_
          exact ⟨rfl, Er_f M p⟩
      · rw [if_pos ⟨cl, c1, fun z => absurd z kk⟩]
        refine aw_aload_n dX1_takeBackLink_0 0 rfl ?_
        refine aw_getR (b := so) dX1_takeBackLink_1 fl_X1_31 rfl (hS.1.s 8 (by decide)) (hS.1.n 8 (by decide)) hS.2.1 ?_
        refine aw_aload_n dX1_takeBackLink_4 0 rfl ?_
        refine aw_getI dX1_takeBackLink_5 fl_X1_21 (hS.1.s 8 (by decide)) (hS.1.n 8 (by decide)) ?_
        refine aw_topE hp ?_
        refine aw_callVi [.int (nI p)] [] (sp_at (d := d - 1) hS cl) dX1_takeBackLink_8 ml_X1_36 im_X3_at hS.2.2.1.1 hS.2.2.1.n0 rfl rfl (dl1 (d := d) (by omega)) rfl rfl (Nat.le_of_ble_eq_true rfl) rfl rfl (Nat.zero_le _) (Nat.zero_le _) ?_
        refine aw_istore_n [(2, .int (nI (B p))), (0, .ref 8), (1, .int (nI k))] dX1_takeBackLink_11 (Nat.le_of_ble_eq_true rfl) rfl ?_
        refine aw_iload_n dX1_takeBackLink_12 0 rfl ?_
        refine aw_if_lt 24 dX1_takeBackLink_13 (by decide) (fun c1 => absurd c1 (nI_nn (by omega))) (fun c1 => ?_)
        refine aw_iload_n dX1_takeBackLink_16 0 rfl ?_
        refine aw_aload_n dX1_takeBackLink_17 1 rfl ?_
        refine aw_getI dX1_takeBackLink_18 fl_X1_17 (hS.1.s 8 (by decide)) (hS.1.n 8 (by decide)) ?_
        refine aw_topE hu ?_
        refine aw_icmp_ltN (B p) u 33 dX1_takeBackLink_21 (by decide) rfl rfl (by omega) (by omega) (fun c2 => ?_) (fun c2 => absurd (by omega) c2)
        refine aw_iload_n dX1_takeBackLink_33 2 rfl ?_
        refine aw_bipush (v := 13) dX1_takeBackLink_34 (by decide) ?_
        refine aw_icmp_neN k 13 61 dX1_takeBackLink_36 (by decide) rfl rfl (by omega) (by omega) (fun c3 => ?_) (fun c3 => absurd c3 kk)
        refine aw_aload_n dX1_takeBackLink_61 1 rfl ?_
        refine aw_iload_n dX1_takeBackLink_62 0 rfl ?_
        refine aw_i2lN (B p) dX1_takeBackLink_63 rfl (by omega) ?_
        refine aw_putL dX1_takeBackLink_64 fl_X1_27 (Or.inl rfl) (hS.1.s 8 (by decide)) (hS.1.n 8 (by decide)) ?_
        refine aw_aload_n dX1_takeBackLink_67 1 rfl ?_
        refine aw_dup dX1_takeBackLink_68 rfl ?_
        refine aw_getI dX1_takeBackLink_69 fl_X1_21 ((hS.l 5 (lN (B p))).1.s 8 (by decide)) ((hS.l 5 (lN (B p))).1.n 8 (by decide)) ?_
        refine aw_topE hp ?_
        refine aw_iconst (v := 1) dX1_takeBackLink_72 (by decide) ?_
        refine aw_iaddN p 1 dX1_takeBackLink_73 rfl rfl ?_
        refine aw_putI dX1_takeBackLink_74 fl_X1_21 (Or.inl rfl) ((hS.l 5 (lN (B p))).1.s 8 (by decide)) ((hS.l 5 (lN (B p))).1.n 8 (by decide)) ?_
        refine aw_iconst (v := 1) dX1_takeBackLink_77 (by decide) ?_
        refine aw_zret dX1_takeBackLink_78 rfl rfl (Nat.zero_le _) (Nat.zero_le _) ?_
        exact ⟨rfl, rfl⟩
    · rw [if_neg (fun z => c1 z.2.1)]
      refine aw_aload_n dX1_takeBackLink_0 0 rfl ?_
      refine aw_getR (b := so) dX1_takeBackLink_1 fl_X1_31 rfl (hS.1.s 8 (by decide)) (hS.1.n 8 (by decide)) hS.2.1 ?_
      refine aw_aload_n dX1_takeBackLink_4 0 rfl ?_
      refine aw_getI dX1_takeBackLink_5 fl_X1_21 (hS.1.s 8 (by decide)) (hS.1.n 8 (by decide)) ?_
      refine aw_topE hp ?_
      refine aw_callVi [.int (nI p)] [] (sp_at (d := d - 1) hS cl) dX1_takeBackLink_8 ml_X1_36 im_X3_at hS.2.2.1.1 hS.2.2.1.n0 rfl rfl (dl1 (d := d) (by omega)) rfl rfl (Nat.le_of_ble_eq_true rfl) rfl rfl (Nat.zero_le _) (Nat.zero_le _) ?_
      refine aw_istore_n [(2, .int (nI (B p))), (0, .ref 8), (1, .int (nI k))] dX1_takeBackLink_11 (Nat.le_of_ble_eq_true rfl) rfl ?_
      refine aw_iload_n dX1_takeBackLink_12 0 rfl ?_
      refine aw_if_lt 24 dX1_takeBackLink_13 (by decide) (fun c1 => absurd c1 (nI_nn (by omega))) (fun c1 => ?_)
      refine aw_iload_n dX1_takeBackLink_16 0 rfl ?_
      refine aw_aload_n dX1_takeBackLink_17 1 rfl ?_
      refine aw_getI dX1_takeBackLink_18 fl_X1_17 (hS.1.s 8 (by decide)) (hS.1.n 8 (by decide)) ?_
      refine aw_topE hu ?_
      refine aw_icmp_ltN (B p) u 33 dX1_takeBackLink_21 (by decide) rfl rfl (by omega) (by omega) (fun c2 => absurd c2 (by omega)) (fun c2 => ?_)
      refine aw_aload_n dX1_takeBackLink_24 1 rfl ?_
      refine aw_aload_n dX1_takeBackLink_25 1 rfl ?_
      refine aw_getI dX1_takeBackLink_26 fl_X1_21 (hS.1.s 8 (by decide)) (hS.1.n 8 (by decide)) ?_
      refine aw_topE hp ?_
      refine aw_callVi [.int (nI p)] [] (sp_X1_failAt (d := d - 1) (nI p) hS.1) dX1_takeBackLink_29 ml_X1_49 im_X1_failAt (hS.1.s 8 (by decide)) (hS.1.n 8 (by decide)) rfl rfl (dl1 (d := d) (by omega)) rfl rfl (Nat.le_of_ble_eq_true rfl) rfl rfl (Nat.zero_le _) (Nat.zero_le _) ?_
      refine aw_zret dX1_takeBackLink_32 rfl rfl (Nat.zero_le _) (Nat.zero_le _) ?_
      exact ⟨rfl, Er_f M p⟩
  · rw [if_neg (fun z => cl z.1)]
    refine aw_aload_n dX1_takeBackLink_0 0 rfl ?_
    refine aw_getR (b := so) dX1_takeBackLink_1 fl_X1_31 rfl (hS.1.s 8 (by decide)) (hS.1.n 8 (by decide)) hS.2.1 ?_
    refine aw_aload_n dX1_takeBackLink_4 0 rfl ?_
    refine aw_getI dX1_takeBackLink_5 fl_X1_21 (hS.1.s 8 (by decide)) (hS.1.n 8 (by decide)) ?_
    refine aw_topE hp ?_
    refine aw_callVi [.int (nI p)] [] (sp_atn (d := d - 1) hS cl (by omega)) dX1_takeBackLink_8 ml_X1_36 im_X3_at hS.2.2.1.1 hS.2.2.1.n0 rfl rfl (dl1 (d := d) (by omega)) rfl rfl (Nat.le_of_ble_eq_true rfl) rfl rfl (Nat.zero_le _) (Nat.zero_le _) ?_
    refine aw_istore_n [(2, .int (-1)), (0, .ref 8), (1, .int (nI k))] dX1_takeBackLink_11 (Nat.le_of_ble_eq_true rfl) rfl ?_
    refine aw_iload_n dX1_takeBackLink_12 0 rfl ?_
    refine aw_if_lt 24 dX1_takeBackLink_13 (by decide) (fun c1 => ?_) (fun c1 => absurd (by decide) c1)
    refine aw_aload_n dX1_takeBackLink_24 1 rfl ?_
    refine aw_aload_n dX1_takeBackLink_25 1 rfl ?_
    refine aw_getI dX1_takeBackLink_26 fl_X1_21 (hS.1.s 8 (by decide)) (hS.1.n 8 (by decide)) ?_
    refine aw_topE hp ?_
    refine aw_callVi [.int (nI p)] [] (sp_X1_failAt (d := d - 1) (nI p) hS.1) dX1_takeBackLink_29 ml_X1_49 im_X1_failAt (hS.1.s 8 (by decide)) (hS.1.n 8 (by decide)) rfl rfl (dl1 (d := d) (by omega)) rfl rfl (Nat.le_of_ble_eq_true rfl) rfl rfl (Nat.zero_le _) (Nat.zero_le _) ?_
    refine aw_zret dX1_takeBackLink_32 rfl rfl (Nat.zero_le _) (Nat.zero_le _) ?_
    exact ⟨rfl, Er_f M p⟩
