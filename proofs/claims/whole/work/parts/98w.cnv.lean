-- KEEPCONVERTED: the class
noncomputable def cvX (M : xM) (f b z : Nat) (W : Nat → Nat) (V : Nat → Int64) (i : Nat) : xM := flL (flI (beaM M (54 + 3 * f) (nI b) z) (54 + 3 * f + 1) 0 i (fun k => nI (hwt b (W k)))) (54 + 3 * f + 2) 0 i (fun k => hvl b (W k) (V k))
theorem sT_cvX (M : xM) (f b z : Nat) (W : Nat → Nat) (V : Nat → Int64) (i : Nat) : sT M (cvX M f b z W V i) := ⟨rfl, rfl, rfl⟩
theorem cvX_I (M : xM) (f b z : Nat) (W : Nat → Nat) (V : Nat → Int64) (i : Nat) {a : Nat} (h : a ≠ 54 + 3 * f) (h1 : a ≠ 54 + 3 * f + 1) : mI (cvX M f b z W V i) a = mI M a := by
  unfold cvX
  rw [mI_flL, mI_flI_ne _ h1, beaM_oI _ _ _ _ h h1]
theorem cvX_L (M : xM) (f b z : Nat) (W : Nat → Nat) (V : Nat → Int64) (i : Nat) {a : Nat} (h : a ≠ 54 + 3 * f + 2) : mL (cvX M f b z W V i) a = mL M a := by
  unfold cvX
  rw [mL_flL_ne _ h]
  exact beaM_oL _ _ _ _ h
theorem cvX_R (M : xM) (f b z : Nat) (W : Nat → Nat) (V : Nat → Int64) (i k : Nat) : mI (cvX M f b z W V i) (54 + 3 * f) k = mI (beaM M (54 + 3 * f) (nI b) z) (54 + 3 * f) k := by
  unfold cvX
  rw [mI_flL, mI_flI_ne _ (by omega)]
theorem kc_all {d : Nat} (hd : 6 ≤ d) {M : xM} {a : Nat} (b z : Nat) (W : Nat → Nat) (V : Nat → Int64) (hT : TC M) (hR : RowAt M a) (hz : mI M a 1 = nI z) (hz2 : z ≤ 12) (hW : ∀ k, k < z → mI M (a + 1) k = nI (W k)) (hV : ∀ k, k < z → mL M (a + 2) k = V k) {post : Option Value → xM → Prop} : ∀ (n i : Nat), i + n = z → (∀ k, i ≤ k → k < z → sX5_accepts M (nI b) (nI (W k)) (V k) = true) → AW (fX5_keepConverted d) 44 [(3, .int (nI z)), (0, .ref 0), (1, .ref a), (2, .int (nI b))] [] M 0 0 post → AW (fX5_keepConverted d) 2 [(3, .int (nI i)), (0, .ref 0), (1, .ref a), (2, .int (nI b))] [] M 0 0 post := by
  intro n
  induction n with
  | zero =>
    intro i hi h hk
    obtain rfl : i = z := by omega
    refine aw_iload_n dX5_keepConverted_2 0 rfl ?_
    refine aw_aload_n dX5_keepConverted_3 2 rfl ?_
    refine aw_getI dX5_keepConverted_4 fl_X5_104 hR.1 hR.n0 ?_
    refine aw_topE hz ?_
    refine aw_icmp_geN i i 44 dX5_keepConverted_7 (by decide) rfl rfl (by omega) (by omega) (fun c1 => ?_) (fun c1 => absurd (by omega) c1)
    exact hk
  | succ n ih =>
    intro i hi h hk
    have h0 := h i (by omega) (by omega)
    refine aw_iload_n dX5_keepConverted_2 0 rfl ?_
    refine aw_aload_n dX5_keepConverted_3 2 rfl ?_
    refine aw_getI dX5_keepConverted_4 fl_X5_104 hR.1 hR.n0 ?_
    refine aw_topE hz ?_
    refine aw_icmp_geN i z 44 dX5_keepConverted_7 (by decide) rfl rfl (by omega) (by omega) (fun c1 => absurd c1 (by omega)) (fun c1 => ?_)
    refine aw_aload_n dX5_keepConverted_10 1 rfl ?_
    refine aw_iload_n dX5_keepConverted_11 3 rfl ?_
    refine aw_aload_n dX5_keepConverted_12 2 rfl ?_
    refine aw_getR (b := a + 1) dX5_keepConverted_13 fl_X5_170 rfl hR.1 hR.n0 hR.2.2.2.1 ?_
    refine aw_iload_n dX5_keepConverted_16 0 rfl ?_
    refine aw_ialdN i dX5_keepConverted_17 hR.2.1 hR.n1 rfl (by omega) (by first | decide | omega) ?_
    refine aw_topE (hW i (by omega)) ?_
    refine aw_aload_n dX5_keepConverted_18 2 rfl ?_
    refine aw_getR (b := a + 2) dX5_keepConverted_19 fl_X5_142 rfl hR.1 hR.n0 hR.2.2.2.2.1 ?_
    refine aw_iload_n dX5_keepConverted_22 0 rfl ?_
    refine aw_laldN i dX5_keepConverted_23 hR.2.2.1 hR.n2 rfl (by omega) (by first | decide | omega) ?_
    refine aw_toplE (hV i (by omega)) ?_
    refine aw_callVi [.int (nI b), .int (nI (W i)), .long (V i)] [] (sp_X5_accepts (d := d - 1) (by omega) (nI b) (nI (W i)) (V i) hT) dX5_keepConverted_24 ml_X5_305 im_X5_accepts (hT.s 0 (by decide)) (hT.n 0 (by decide)) rfl rfl (dl1 (d := d) (by omega)) rfl rfl (Nat.le_of_ble_eq_true rfl) rfl rfl (Nat.zero_le _) (Nat.zero_le _) ?_
    refine aw_if_ne 38 dX5_keepConverted_27 (by decide) (fun c2 => ?_) (fun c2 => absurd c2 (bz_n0.mpr h0))
    refine aw_iincN i 1 [(3, .int (nI (i + 1))), (0, .ref 0), (1, .ref a), (2, .int (nI b))] dX5_keepConverted_38 0 rfl rfl rfl (Nat.le_of_ble_eq_true rfl) rfl ?_
    refine aw_goto 2 dX5_keepConverted_41 (by decide) ?_
    exact ih (i + 1) (by omega) (fun k k1 k2 => h k (by omega) k2) hk
theorem kc_ref {d : Nat} (hd : 6 ≤ d) {M : xM} {a : Nat} (b z : Nat) (W : Nat → Nat) (V : Nat → Int64) (hT : TC M) (hR : RowAt M a) (hz : mI M a 1 = nI z) (hz2 : z ≤ 12) (hW : ∀ k, k < z → mI M (a + 1) k = nI (W k)) (hV : ∀ k, k < z → mL M (a + 2) k = V k) (m : Nat) (hm : m < z) (hf : sX5_accepts M (nI b) (nI (W m)) (V m) = false) : ∀ (n i : Nat), i + n = m → (∀ k, i ≤ k → k < m → sX5_accepts M (nI b) (nI (W k)) (V k) = true) → AW (fX5_keepConverted d) 2 [(3, .int (nI i)), (0, .ref 0), (1, .ref a), (2, .int (nI b))] [] M 0 0 (dt (some (.int (-9))) (tX5_report M (-9) (nI m))) := by
  intro n
  induction n with
  | zero =>
    intro i hi h
    obtain rfl : i = m := by omega
    refine aw_iload_n dX5_keepConverted_2 0 rfl ?_
    refine aw_aload_n dX5_keepConverted_3 2 rfl ?_
    refine aw_getI dX5_keepConverted_4 fl_X5_104 hR.1 hR.n0 ?_
    refine aw_topE hz ?_
    refine aw_icmp_geN i z 44 dX5_keepConverted_7 (by decide) rfl rfl (by omega) (by omega) (fun c1 => absurd c1 (by omega)) (fun c1 => ?_)
    refine aw_aload_n dX5_keepConverted_10 1 rfl ?_
    refine aw_iload_n dX5_keepConverted_11 3 rfl ?_
    refine aw_aload_n dX5_keepConverted_12 2 rfl ?_
    refine aw_getR (b := a + 1) dX5_keepConverted_13 fl_X5_170 rfl hR.1 hR.n0 hR.2.2.2.1 ?_
    refine aw_iload_n dX5_keepConverted_16 0 rfl ?_
    refine aw_ialdN i dX5_keepConverted_17 hR.2.1 hR.n1 rfl (by omega) (by first | decide | omega) ?_
    refine aw_topE (hW i (by omega)) ?_
    refine aw_aload_n dX5_keepConverted_18 2 rfl ?_
    refine aw_getR (b := a + 2) dX5_keepConverted_19 fl_X5_142 rfl hR.1 hR.n0 hR.2.2.2.2.1 ?_
    refine aw_iload_n dX5_keepConverted_22 0 rfl ?_
    refine aw_laldN i dX5_keepConverted_23 hR.2.2.1 hR.n2 rfl (by omega) (by first | decide | omega) ?_
    refine aw_toplE (hV i (by omega)) ?_
    refine aw_callVi [.int (nI b), .int (nI (W i)), .long (V i)] [] (sp_X5_accepts (d := d - 1) (by omega) (nI b) (nI (W i)) (V i) hT) dX5_keepConverted_24 ml_X5_305 im_X5_accepts (hT.s 0 (by decide)) (hT.n 0 (by decide)) rfl rfl (dl1 (d := d) (by omega)) rfl rfl (Nat.le_of_ble_eq_true rfl) rfl rfl (Nat.zero_le _) (Nat.zero_le _) ?_
    refine aw_if_ne 38 dX5_keepConverted_27 (by decide) (fun c2 => absurd (bz_0.mpr hf) c2) (fun c2 => ?_)
    refine aw_aload_n dX5_keepConverted_30 1 rfl ?_
    refine aw_bipush (v := -9) dX5_keepConverted_31 (by decide) ?_
    refine aw_iload_n dX5_keepConverted_33 0 rfl ?_
    refine aw_callVi [.int (-9), .int (nI i)] [] (sp_X5_report (d := d - 1) (by omega) (-9) (nI i) hT) dX5_keepConverted_34 ml_X5_138 im_X5_report (hT.s 0 (by decide)) (hT.n 0 (by decide)) rfl rfl (dl1 (d := d) (by omega)) rfl rfl (Nat.le_of_ble_eq_true rfl) rfl rfl (Nat.zero_le _) (Nat.zero_le _) ?_
    refine aw_iret dX5_keepConverted_37 rfl (Nat.zero_le _) (Nat.zero_le _) ?_
    exact ⟨rfl, rfl⟩
  | succ n ih =>
    intro i hi h
    have h0 := h i (by omega) (by omega)
    refine aw_iload_n dX5_keepConverted_2 0 rfl ?_
    refine aw_aload_n dX5_keepConverted_3 2 rfl ?_
    refine aw_getI dX5_keepConverted_4 fl_X5_104 hR.1 hR.n0 ?_
    refine aw_topE hz ?_
    refine aw_icmp_geN i z 44 dX5_keepConverted_7 (by decide) rfl rfl (by omega) (by omega) (fun c1 => absurd c1 (by omega)) (fun c1 => ?_)
    refine aw_aload_n dX5_keepConverted_10 1 rfl ?_
    refine aw_iload_n dX5_keepConverted_11 3 rfl ?_
    refine aw_aload_n dX5_keepConverted_12 2 rfl ?_
    refine aw_getR (b := a + 1) dX5_keepConverted_13 fl_X5_170 rfl hR.1 hR.n0 hR.2.2.2.1 ?_
    refine aw_iload_n dX5_keepConverted_16 0 rfl ?_
    refine aw_ialdN i dX5_keepConverted_17 hR.2.1 hR.n1 rfl (by omega) (by first | decide | omega) ?_
    refine aw_topE (hW i (by omega)) ?_
    refine aw_aload_n dX5_keepConverted_18 2 rfl ?_
    refine aw_getR (b := a + 2) dX5_keepConverted_19 fl_X5_142 rfl hR.1 hR.n0 hR.2.2.2.2.1 ?_
    refine aw_iload_n dX5_keepConverted_22 0 rfl ?_
    refine aw_laldN i dX5_keepConverted_23 hR.2.2.1 hR.n2 rfl (by omega) (by first | decide | omega) ?_
    refine aw_toplE (hV i (by omega)) ?_
    refine aw_callVi [.int (nI b), .int (nI (W i)), .long (V i)] [] (sp_X5_accepts (d := d - 1) (by omega) (nI b) (nI (W i)) (V i) hT) dX5_keepConverted_24 ml_X5_305 im_X5_accepts (hT.s 0 (by decide)) (hT.n 0 (by decide)) rfl rfl (dl1 (d := d) (by omega)) rfl rfl (Nat.le_of_ble_eq_true rfl) rfl rfl (Nat.zero_le _) (Nat.zero_le _) ?_
    refine aw_if_ne 38 dX5_keepConverted_27 (by decide) (fun c2 => ?_) (fun c2 => absurd c2 (bz_n0.mpr h0))
    refine aw_iincN i 1 [(3, .int (nI (i + 1))), (0, .ref 0), (1, .ref a), (2, .int (nI b))] dX5_keepConverted_38 0 rfl rfl rfl (Nat.le_of_ble_eq_true rfl) rfl ?_
    refine aw_goto 2 dX5_keepConverted_41 (by decide) ?_
    exact ih (i + 1) (by omega) (fun k k1 k2 => h k (by omega) k2)
theorem kc_l2 {d : Nat} (hd : 6 ≤ d) {M : xM} {a : Nat} (b z f : Nat) (W : Nat → Nat) (V : Nat → Int64) (hT : TC M) (hR : RowAt M a) (hz : mI M a 1 = nI z) (hz2 : z ≤ 12) (hW : ∀ k, k < z → mI M (a + 1) k = nI (W k)) (hV : ∀ k, k < z → mL M (a + 2) k = V k) (hf : f < 12) (ha : a + 2 < 54 + 3 * f ∨ 54 + 3 * f + 2 < a) (hb : b < 14) (hw8 : ∀ k, k < z → b < 8 → W k < 8) (h6 : ∀ k, k < z → W k = 6 → okF 6 (V k)) : ∀ (n i : Nat), i + n = z → AW (fX5_keepConverted d) 78 [(4, .int (nI i)), (3, .int (nI f)), (0, .ref 0), (1, .ref a), (2, .int (nI b))] [] (cvX M f b z W V i) 0 0 (dt (some (.int (nI f))) (tX5_report (cvX M f b z W V z) 0 (-1))) := by
  intro n
  induction n with
  | zero =>
    intro i hi
    have hz' : mI (cvX M f b z W V i) a 1 = nI z := (congrFun (cvX_I M f b z W V i (by omega) (by omega)) 1).trans hz
    obtain rfl : i = z := by omega
    refine aw_iload dX5_keepConverted_78 0 rfl ?_
    refine aw_aload_n dX5_keepConverted_80 3 rfl ?_
    refine aw_getI dX5_keepConverted_81 fl_X5_104 ((sT_cvX M f b i W V i).row hR).1 ((sT_cvX M f b i W V i).row hR).n0 ?_
    refine aw_topE hz' ?_
    refine aw_icmp_geN i i 118 dX5_keepConverted_84 (by decide) rfl rfl (by omega) (by omega) (fun c1 => ?_) (fun c1 => absurd (by omega) c1)
    refine aw_aload_n dX5_keepConverted_118 2 rfl ?_
    refine aw_iconst (v := 0) dX5_keepConverted_119 (by decide) ?_
    refine aw_iconst (v := -1) dX5_keepConverted_120 (by decide) ?_
    refine aw_callVi [.int 0, .int (-1)] [] (sp_X5_report (d := d - 1) (by omega) 0 (-1) ((sT_cvX M f b i W V i).TC hT)) dX5_keepConverted_121 ml_X5_138 im_X5_report (((sT_cvX M f b i W V i).TC hT).s 0 (by decide)) (((sT_cvX M f b i W V i).TC hT).n 0 (by decide)) rfl rfl (dl1 (d := d) (by omega)) rfl rfl (Nat.le_of_ble_eq_true rfl) rfl rfl (Nat.zero_le _) (Nat.zero_le _) ?_
    refine aw_pop dX5_keepConverted_124 rfl ?_
    refine aw_iload_n dX5_keepConverted_125 1 rfl ?_
    refine aw_iret dX5_keepConverted_126 rfl (Nat.zero_le _) (Nat.zero_le _) ?_
    exact ⟨rfl, rfl⟩
  | succ n ih =>
    intro i hi
    have hz' : mI (cvX M f b z W V i) a 1 = nI z := (congrFun (cvX_I M f b z W V i (by omega) (by omega)) 1).trans hz
    have hW' : mI (cvX M f b z W V i) (a + 1) i = nI (W i) := (congrFun (cvX_I M f b z W V i (by omega) (by omega)) i).trans (hW i (by omega))
    have hV' : mL (cvX M f b z W V i) (a + 2) i = V i := (congrFun (cvX_L M f b z W V i (by omega)) i).trans (hV i (by omega))
    have hK' : mI (cvX M f b z W V i) (54 + 3 * f) 0 = nI b := by rw [cvX_R, beaM_0]
    refine aw_iload dX5_keepConverted_78 0 rfl ?_
    refine aw_aload_n dX5_keepConverted_80 3 rfl ?_
    refine aw_getI dX5_keepConverted_81 fl_X5_104 ((sT_cvX M f b z W V i).row hR).1 ((sT_cvX M f b z W V i).row hR).n0 ?_
    refine aw_topE hz' ?_
    refine aw_icmp_geN i z 118 dX5_keepConverted_84 (by decide) rfl rfl (by omega) (by omega) (fun c1 => absurd c1 (by omega)) (fun c1 => ?_)
    refine aw_aload_n dX5_keepConverted_87 2 rfl ?_
    refine aw_getR (b := 1) dX5_keepConverted_88 fl_X5_11 rfl (((sT_cvX M f b z W V i).TC hT).s 0 (by decide)) (((sT_cvX M f b z W V i).TC hT).n 0 (by decide)) (((sT_cvX M f b z W V i).TC hT).r 0 0 (by decide) (by decide)) ?_
    refine aw_iload_n dX5_keepConverted_91 1 rfl ?_
    refine aw_aaldN f (54 + 3 * f) dX5_keepConverted_92 (((sT_cvX M f b z W V i).TC hT).s 1 (by decide)) (((sT_cvX M f b z W V i).TC hT).n 1 (by decide)) rfl (by omega) (by first | decide | omega) (((sT_cvX M f b z W V i).TC hT).slot (by omega)) ?_
    refine aw_iload dX5_keepConverted_93 0 rfl ?_
    refine aw_aload_n dX5_keepConverted_95 3 rfl ?_
    refine aw_getR (b := a + 1) dX5_keepConverted_96 fl_X5_170 rfl ((sT_cvX M f b z W V i).row hR).1 ((sT_cvX M f b z W V i).row hR).n0 ((sT_cvX M f b z W V i).row hR).2.2.2.1 ?_
    refine aw_iload dX5_keepConverted_99 0 rfl ?_
    refine aw_ialdN i dX5_keepConverted_101 ((sT_cvX M f b z W V i).row hR).2.1 ((sT_cvX M f b z W V i).row hR).n1 rfl (by omega) (by first | decide | omega) ?_
    refine aw_topE hW' ?_
    refine aw_aload_n dX5_keepConverted_102 3 rfl ?_
    refine aw_getR (b := a + 2) dX5_keepConverted_103 fl_X5_142 rfl ((sT_cvX M f b z W V i).row hR).1 ((sT_cvX M f b z W V i).row hR).n0 ((sT_cvX M f b z W V i).row hR).2.2.2.2.1 ?_
    refine aw_iload dX5_keepConverted_106 0 rfl ?_
    refine aw_laldN i dX5_keepConverted_108 ((sT_cvX M f b z W V i).row hR).2.2.1 ((sT_cvX M f b z W V i).row hR).n2 rfl (by omega) (by first | decide | omega) ?_
    refine aw_toplE hV' ?_
    refine aw_callVv [.int (nI i), .int (nI (W i)), .long (V i)] [] (sp_X2_hold (d := d - 1) (by omega) i b (W i) (V i) (((sT_cvX M f b z W V i).TC hT).row hf) (by omega) hb hK' (hw8 i (by omega)) (h6 i (by omega))) dX5_keepConverted_109 ml_X5_160 im_X2_hold (((sT_cvX M f b z W V i).TC hT).row (t := f) (by omega)).1 (((sT_cvX M f b z W V i).TC hT).row (t := f) (by omega)).n0 rfl rfl (dl1 (d := d) (by omega)) rfl rfl (Nat.le_of_ble_eq_true rfl) rfl rfl (Nat.zero_le _) (Nat.zero_le _) ?_
    refine aw_iincN i 1 [(4, .int (nI (i + 1))), (3, .int (nI f)), (0, .ref 0), (1, .ref a), (2, .int (nI b))] dX5_keepConverted_112 0 rfl rfl rfl (Nat.le_of_ble_eq_true rfl) rfl ?_
    refine aw_goto 78 dX5_keepConverted_115 (by decide) ?_
    refine aw_eqM (show _ = cvX M f b z W V (i + 1) from flIL_s0 _ _ _ i _ _ rfl rfl) ?_
    exact ih (i + 1) (by omega)
theorem sp_kc_ref {d : Nat} (hd : 6 ≤ d) {M : xM} {a : Nat} (b z : Nat) (W : Nat → Nat) (V : Nat → Int64) (hT : TC M) (hR : RowAt M a) (hz : mI M a 1 = nI z) (hz2 : z ≤ 12) (hW : ∀ k, k < z → mI M (a + 1) k = nI (W k)) (hV : ∀ k, k < z → mL M (a + 2) k = V k) (m : Nat) (hm : m < z) (hf : sX5_accepts M (nI b) (nI (W m)) (V m) = false) (h : ∀ k, k < m → sX5_accepts M (nI b) (nI (W k)) (V k) = true) : Sp (fX5_keepConverted d) [.ref 0, .ref a, .int (nI b)] M (dt (some (.int (-9))) (tX5_report M (-9) (nI m))) := by
  refine Sp.of pn_X5 (Nat.le_of_ble_eq_true rfl) (fun h => Bool.noConfusion h) ?_
  refine aw_iconst (v := 0) dX5_keepConverted_0 (by decide) ?_
  refine aw_istore_n [(3, .int 0), (0, .ref 0), (1, .ref a), (2, .int (nI b))] dX5_keepConverted_1 (Nat.le_of_ble_eq_true rfl) rfl ?_
  exact kc_ref hd b z W V hT hR hz hz2 hW hV m hm hf m 0 (by omega) (fun k _ k2 => h k k2)
theorem sp_kc_full {d : Nat} (hd : 6 ≤ d) {M : xM} {a : Nat} (b z : Nat) (W : Nat → Nat) (V : Nat → Int64) (hT : TC M) (hR : RowAt M a) (hz : mI M a 1 = nI z) (hz2 : z ≤ 12) (hW : ∀ k, k < z → mI M (a + 1) k = nI (W k)) (hV : ∀ k, k < z → mL M (a + 2) k = V k) (h : ∀ k, k < z → sX5_accepts M (nI b) (nI (W k)) (V k) = true) (hl : sX5_lowestEmpty M = -1) : Sp (fX5_keepConverted d) [.ref 0, .ref a, .int (nI b)] M (dt (some (.int (-3))) (tX5_report M (-3) (-1))) := by
  refine Sp.of pn_X5 (Nat.le_of_ble_eq_true rfl) (fun h => Bool.noConfusion h) ?_
  refine aw_iconst (v := 0) dX5_keepConverted_0 (by decide) ?_
  refine aw_istore_n [(3, .int 0), (0, .ref 0), (1, .ref a), (2, .int (nI b))] dX5_keepConverted_1 (Nat.le_of_ble_eq_true rfl) rfl ?_
  refine kc_all hd b z W V hT hR hz hz2 hW hV z 0 (by omega) (fun k _ k2 => h k k2) ?_
  refine aw_aload_n dX5_keepConverted_44 1 rfl ?_
  refine aw_callVi [] [] (sp_X5_lowestEmpty (d := d - 1) (by omega) hT) dX5_keepConverted_45 ml_X5_82 im_X5_lowestEmpty (hT.s 0 (by decide)) (hT.n 0 (by decide)) rfl rfl (dl1 (d := d) (by omega)) rfl rfl (Nat.le_of_ble_eq_true rfl) rfl rfl (Nat.zero_le _) (Nat.zero_le _) ?_
  refine aw_topE hl ?_
  refine aw_istore_n [(3, .int (-1)), (0, .ref 0), (1, .ref a), (2, .int (nI b))] dX5_keepConverted_48 (Nat.le_of_ble_eq_true rfl) rfl ?_
  refine aw_iload_n dX5_keepConverted_49 0 rfl ?_
  refine aw_if_ge 61 dX5_keepConverted_50 (by decide) (fun c1 => absurd c1 (by decide)) (fun c1 => ?_)
  refine aw_aload_n dX5_keepConverted_53 1 rfl ?_
  refine aw_bipush (v := -3) dX5_keepConverted_54 (by decide) ?_
  refine aw_iconst (v := -1) dX5_keepConverted_56 (by decide) ?_
  refine aw_callVi [.int (-3), .int (-1)] [] (sp_X5_report (d := d - 1) (by omega) (-3) (-1) hT) dX5_keepConverted_57 ml_X5_138 im_X5_report (hT.s 0 (by decide)) (hT.n 0 (by decide)) rfl rfl (dl1 (d := d) (by omega)) rfl rfl (Nat.le_of_ble_eq_true rfl) rfl rfl (Nat.zero_le _) (Nat.zero_le _) ?_
  refine aw_iret dX5_keepConverted_60 rfl (Nat.zero_le _) (Nat.zero_le _) ?_
  exact ⟨rfl, rfl⟩
theorem sp_kc_ok {d : Nat} (hd : 6 ≤ d) {M : xM} {a : Nat} (b z : Nat) (W : Nat → Nat) (V : Nat → Int64) (hT : TC M) (hR : RowAt M a) (hz : mI M a 1 = nI z) (hz2 : z ≤ 12) (hW : ∀ k, k < z → mI M (a + 1) k = nI (W k)) (hV : ∀ k, k < z → mL M (a + 2) k = V k) (h : ∀ k, k < z → sX5_accepts M (nI b) (nI (W k)) (V k) = true) (f : Nat) (hf : f < 12) (hl : sX5_lowestEmpty M = nI f) (ha : a + 2 < 54 + 3 * f ∨ 54 + 3 * f + 2 < a) (hb : b < 14) (hw8 : ∀ k, k < z → b < 8 → W k < 8) (h6 : ∀ k, k < z → W k = 6 → okF 6 (V k)) : Sp (fX5_keepConverted d) [.ref 0, .ref a, .int (nI b)] M (dt (some (.int (nI f))) (tX5_report (cvX M f b z W V z) 0 (-1))) := by
  refine Sp.of pn_X5 (Nat.le_of_ble_eq_true rfl) (fun h => Bool.noConfusion h) ?_
  refine aw_iconst (v := 0) dX5_keepConverted_0 (by decide) ?_
  refine aw_istore_n [(3, .int 0), (0, .ref 0), (1, .ref a), (2, .int (nI b))] dX5_keepConverted_1 (Nat.le_of_ble_eq_true rfl) rfl ?_
  refine kc_all hd b z W V hT hR hz hz2 hW hV z 0 (by omega) (fun k _ k2 => h k k2) ?_
  refine aw_aload_n dX5_keepConverted_44 1 rfl ?_
  refine aw_callVi [] [] (sp_X5_lowestEmpty (d := d - 1) (by omega) hT) dX5_keepConverted_45 ml_X5_82 im_X5_lowestEmpty (hT.s 0 (by decide)) (hT.n 0 (by decide)) rfl rfl (dl1 (d := d) (by omega)) rfl rfl (Nat.le_of_ble_eq_true rfl) rfl rfl (Nat.zero_le _) (Nat.zero_le _) ?_
  refine aw_topE hl ?_
  refine aw_istore_n [(3, .int (nI f)), (0, .ref 0), (1, .ref a), (2, .int (nI b))] dX5_keepConverted_48 (Nat.le_of_ble_eq_true rfl) rfl ?_
  refine aw_iload_n dX5_keepConverted_49 0 rfl ?_
  refine aw_if_ge 61 dX5_keepConverted_50 (by decide) (fun c1 => ?_) (fun c1 => absurd ((by decide : ∀ f, f < 12 → 0 ≤ nI f) f hf) c1)
  refine aw_aload_n dX5_keepConverted_61 1 rfl ?_
  refine aw_getR (b := 1) dX5_keepConverted_62 fl_X5_11 rfl (hT.s 0 (by decide)) (hT.n 0 (by decide)) (hT.r 0 0 (by decide) (by decide)) ?_
  refine aw_iload_n dX5_keepConverted_65 0 rfl ?_
  refine aw_aaldN f (54 + 3 * f) dX5_keepConverted_66 (hT.s 1 (by decide)) (hT.n 1 (by decide)) rfl (by omega) (by first | decide | omega) (hT.slot (by omega)) ?_
  refine aw_iload_n dX5_keepConverted_67 3 rfl ?_
  refine aw_aload_n dX5_keepConverted_68 2 rfl ?_
  refine aw_getI dX5_keepConverted_69 fl_X5_104 hR.1 hR.n0 ?_
  refine aw_topE hz ?_
  refine aw_callVv [.int (nI b), .int (nI z)] [] (sp_X2_beArray (d := d - 1) (by omega) (nI b) z (hT.row hf) hz2) dX5_keepConverted_72 ml_X5_90 im_X2_beArray (hT.row (t := f) (by omega)).1 (hT.row (t := f) (by omega)).n0 rfl rfl (dl1 (d := d) (by omega)) rfl rfl (Nat.le_of_ble_eq_true rfl) rfl rfl (Nat.zero_le _) (Nat.zero_le _) ?_
  refine aw_iconst (v := 0) dX5_keepConverted_75 (by decide) ?_
  refine aw_istore [(4, .int 0), (3, .int (nI f)), (0, .ref 0), (1, .ref a), (2, .int (nI b))] dX5_keepConverted_76 (Nat.le_of_ble_eq_true rfl) rfl ?_
  refine aw_eqM (show _ = cvX M f b z W V 0 from (flIL_0 _ _ _ _ _ _ _).symm) ?_
  exact kc_l2 hd b z f W V hT hR hz hz2 hW hV hf ha hb hw8 h6 z 0 (by omega)
-- FIRSTREFUSED, CONVERTED: the reference
theorem tkM_id (M : xM) : M = tkM M (mI M 0 27) (mL M 0 28) := by
  unfold tkM
  rw [stI_same rfl]
  unfold stL
  rw [show xup M.2.1 0 28 (mL M 0 28) = M.2.1 from xup_same rfl]
theorem tkM_tkM (M : xM) (x x' : Int32) (y y' : Int64) : tkM (tkM M x y) x' y' = tkM M x' y' := tkM_tk M x x' y y'
theorem kd4_tk (M : xM) (x : Int32) (y v : Int64) : kd4 (tkM M x y) v = kd4 M v := by
  unfold kd4
  rw [tkM_I _ _ _ (by decide)]
theorem sp_takesS {d : Nat} (hd : 3 ≤ d) {M : xM} (x : Int32) (y : Int64) (k w : Nat) (v : Int64) (hT : TR M) (hk : k < 14) (hw : w < 12) (h13 : k = 13 → w = 10 → vp_in v.toInt32 24) (h6 : w = 6 → okF 6 v) : Sp (fX6_takes d) [.ref 0, .int (nI k), .int (nI w), .long v] (tkM M x y) (dt (some (.int (bz (tkB (kd4 M v) k w v)))) (tkM M (nI (if tkB (kd4 M v) k w v = true then hwt k w else w)) (if tkB (kd4 M v) k w v = true then hvl k w v else v))) := by
  have q := sp_X6_takes (M := tkM M x y) hd k w v ((sT_tkM M x y).TR hT) hk hw h13 h6
  unfold tkR at q
  rw [kd4_tk, tkM_tkM] at q
  exact q
theorem fr_all {d : Nat} (hd : 4 ≤ d) {M : xM} {t : Nat} (b z : Nat) (W : Nat → Nat) (V : Nat → Int64) (hT : TR M) (ht : t < 24) (hz : mI M 2 t = nI z) (hz2 : z ≤ 12) (hW : ∀ k, k < z → mI M 4 (12 * t + k) = nI (W k)) (hV : ∀ k, k < z → mL M 5 (12 * t + k) = V k) (hb : b < 14) (hw : ∀ k, k < z → W k < 12) (h13 : ∀ k, k < z → b = 13 → W k = 10 → vp_in (V k).toInt32 24) (h6 : ∀ k, k < z → W k = 6 → okF 6 (V k)) : ∀ (n i : Nat) (x : Int32) (y : Int64), i + n = z → (∀ k, i ≤ k → k < z → tkB (kd4 M (V k)) b (W k) (V k) = true) → AW (fX6_firstRefused d) 2 [(3, .int (nI i)), (0, .ref 0), (1, .int (nI t)), (2, .int (nI b))] [] (tkM M x y) 0 0 (fun r M' => r = some (.int (-1)) ∧ ∃ x y, M' = tkM M x y) := by
  intro n
  induction n with
  | zero =>
    intro i x y hi h
    refine aw_iload_n dX6_firstRefused_2 0 rfl ?_
    refine aw_aload_n dX6_firstRefused_3 1 rfl ?_
    refine aw_getR (b := 2) dX6_firstRefused_4 fl_X6_13 rfl (((sT_tkM M x y).TR hT).s 0 (by decide)) (((sT_tkM M x y).TR hT).n 0 (by decide)) (((sT_tkM M x y).TR hT).r 1) ?_
    refine aw_iload_n dX6_firstRefused_7 2 rfl ?_
    refine aw_ialdN t dX6_firstRefused_8 (((sT_tkM M x y).TR hT).s 2 (by decide)) (((sT_tkM M x y).TR hT).n 2 (by decide)) rfl (by omega) (by first | decide | omega) ?_
    refine aw_topE ((congrFun (tkM_I M x y (by decide)) t).trans hz) ?_
    refine aw_icmp_geN i z 50 dX6_firstRefused_9 (by decide) rfl rfl (by omega) (by omega) (fun c1 => ?_) (fun c1 => absurd (by omega) c1)
    refine aw_iconst (v := -1) dX6_firstRefused_50 (by decide) ?_
    refine aw_iret dX6_firstRefused_51 rfl (Nat.zero_le _) (Nat.zero_le _) ?_
    exact ⟨rfl, x, y, rfl⟩
  | succ n ih =>
    intro i x y hi h
    have h0 := h i (by omega) (by omega)
    refine aw_iload_n dX6_firstRefused_2 0 rfl ?_
    refine aw_aload_n dX6_firstRefused_3 1 rfl ?_
    refine aw_getR (b := 2) dX6_firstRefused_4 fl_X6_13 rfl (((sT_tkM M x y).TR hT).s 0 (by decide)) (((sT_tkM M x y).TR hT).n 0 (by decide)) (((sT_tkM M x y).TR hT).r 1) ?_
    refine aw_iload_n dX6_firstRefused_7 2 rfl ?_
    refine aw_ialdN t dX6_firstRefused_8 (((sT_tkM M x y).TR hT).s 2 (by decide)) (((sT_tkM M x y).TR hT).n 2 (by decide)) rfl (by omega) (by first | decide | omega) ?_
    refine aw_topE ((congrFun (tkM_I M x y (by decide)) t).trans hz) ?_
    refine aw_icmp_geN i z 50 dX6_firstRefused_9 (by decide) rfl rfl (by omega) (by omega) (fun c1 => absurd c1 (by omega)) (fun c1 => ?_)
    refine aw_aload_n dX6_firstRefused_12 1 rfl ?_
    refine aw_iload_n dX6_firstRefused_13 3 rfl ?_
    refine aw_aload_n dX6_firstRefused_14 1 rfl ?_
    refine aw_getR (b := 4) dX6_firstRefused_15 fl_X6_20 rfl (((sT_tkM M x y).TR hT).s 0 (by decide)) (((sT_tkM M x y).TR hT).n 0 (by decide)) (((sT_tkM M x y).TR hT).r 3) ?_
    refine aw_bipush (v := 12) dX6_firstRefused_18 (by decide) ?_
    refine aw_iload_n dX6_firstRefused_20 2 rfl ?_
    refine aw_imulN 12 t dX6_firstRefused_21 rfl rfl ?_
    refine aw_iload_n dX6_firstRefused_22 0 rfl ?_
    refine aw_iaddN (12 * t) i dX6_firstRefused_23 rfl rfl ?_
    refine aw_ialdN ((12 * t) + i) dX6_firstRefused_24 (((sT_tkM M x y).TR hT).s 4 (by decide)) (((sT_tkM M x y).TR hT).n 4 (by decide)) rfl (by omega) (by first | decide | omega) ?_
    refine aw_topE ((congrFun (tkM_I M x y (by decide)) _).trans (hW i (by omega))) ?_
    refine aw_aload_n dX6_firstRefused_25 1 rfl ?_
    refine aw_getR (b := 5) dX6_firstRefused_26 fl_X6_23 rfl (((sT_tkM M x y).TR hT).s 0 (by decide)) (((sT_tkM M x y).TR hT).n 0 (by decide)) (((sT_tkM M x y).TR hT).r 4) ?_
    refine aw_bipush (v := 12) dX6_firstRefused_29 (by decide) ?_
    refine aw_iload_n dX6_firstRefused_31 2 rfl ?_
    refine aw_imulN 12 t dX6_firstRefused_32 rfl rfl ?_
    refine aw_iload_n dX6_firstRefused_33 0 rfl ?_
    refine aw_iaddN (12 * t) i dX6_firstRefused_34 rfl rfl ?_
    refine aw_laldN ((12 * t) + i) dX6_firstRefused_35 (((sT_tkM M x y).TR hT).s 5 (by decide)) (((sT_tkM M x y).TR hT).n 5 (by decide)) rfl (by omega) (by first | decide | omega) ?_
    refine aw_toplE ((congrFun (tkM_L M x y (by decide)) _).trans (hV i (by omega))) ?_
    refine aw_callVi [.int (nI b), .int (nI (W i)), .long (V i)] [] (sp_takesS (d := d - 1) (by omega) x y b (W i) (V i) hT hb (hw i (by omega)) (h13 i (by omega)) (h6 i (by omega))) dX6_firstRefused_36 ml_X6_213 im_X6_takes (((sT_tkM M x y).TR hT).s 0 (by decide)) (((sT_tkM M x y).TR hT).n 0 (by decide)) rfl rfl (dl1 (d := d) (by omega)) rfl rfl (Nat.le_of_ble_eq_true rfl) rfl rfl (Nat.zero_le _) (Nat.zero_le _) ?_
    refine aw_if_ne 44 dX6_firstRefused_39 (by decide) (fun c2 => ?_) (fun c2 => absurd c2 (bz_n0.mpr h0))
    refine aw_iincN i 1 [(3, .int (nI (i + 1))), (0, .ref 0), (1, .int (nI t)), (2, .int (nI b))] dX6_firstRefused_44 0 rfl rfl rfl (Nat.le_of_ble_eq_true rfl) rfl ?_
    refine aw_goto 2 dX6_firstRefused_47 (by decide) ?_
    exact ih (i + 1) _ _ (by omega) (fun k k1 k2 => h k (by omega) k2)
theorem fr_ref {d : Nat} (hd : 4 ≤ d) {M : xM} {t : Nat} (b z : Nat) (W : Nat → Nat) (V : Nat → Int64) (hT : TR M) (ht : t < 24) (hz : mI M 2 t = nI z) (hz2 : z ≤ 12) (hW : ∀ k, k < z → mI M 4 (12 * t + k) = nI (W k)) (hV : ∀ k, k < z → mL M 5 (12 * t + k) = V k) (hb : b < 14) (hw : ∀ k, k < z → W k < 12) (h13 : ∀ k, k < z → b = 13 → W k = 10 → vp_in (V k).toInt32 24) (h6 : ∀ k, k < z → W k = 6 → okF 6 (V k)) (m : Nat) (hm : m < z) (hf : tkB (kd4 M (V m)) b (W m) (V m) = false) : ∀ (n i : Nat) (x : Int32) (y : Int64), i + n = m → (∀ k, i ≤ k → k < m → tkB (kd4 M (V k)) b (W k) (V k) = true) → AW (fX6_firstRefused d) 2 [(3, .int (nI i)), (0, .ref 0), (1, .int (nI t)), (2, .int (nI b))] [] (tkM M x y) 0 0 (fun r M' => r = some (.int (nI m)) ∧ ∃ x y, M' = tkM M x y) := by
  intro n
  induction n with
  | zero =>
    intro i x y hi h
    obtain rfl : i = m := by omega
    refine aw_iload_n dX6_firstRefused_2 0 rfl ?_
    refine aw_aload_n dX6_firstRefused_3 1 rfl ?_
    refine aw_getR (b := 2) dX6_firstRefused_4 fl_X6_13 rfl (((sT_tkM M x y).TR hT).s 0 (by decide)) (((sT_tkM M x y).TR hT).n 0 (by decide)) (((sT_tkM M x y).TR hT).r 1) ?_
    refine aw_iload_n dX6_firstRefused_7 2 rfl ?_
    refine aw_ialdN t dX6_firstRefused_8 (((sT_tkM M x y).TR hT).s 2 (by decide)) (((sT_tkM M x y).TR hT).n 2 (by decide)) rfl (by omega) (by first | decide | omega) ?_
    refine aw_topE ((congrFun (tkM_I M x y (by decide)) t).trans hz) ?_
    refine aw_icmp_geN i z 50 dX6_firstRefused_9 (by decide) rfl rfl (by omega) (by omega) (fun c1 => absurd c1 (by omega)) (fun c1 => ?_)
    refine aw_aload_n dX6_firstRefused_12 1 rfl ?_
    refine aw_iload_n dX6_firstRefused_13 3 rfl ?_
    refine aw_aload_n dX6_firstRefused_14 1 rfl ?_
    refine aw_getR (b := 4) dX6_firstRefused_15 fl_X6_20 rfl (((sT_tkM M x y).TR hT).s 0 (by decide)) (((sT_tkM M x y).TR hT).n 0 (by decide)) (((sT_tkM M x y).TR hT).r 3) ?_
    refine aw_bipush (v := 12) dX6_firstRefused_18 (by decide) ?_
    refine aw_iload_n dX6_firstRefused_20 2 rfl ?_
    refine aw_imulN 12 t dX6_firstRefused_21 rfl rfl ?_
    refine aw_iload_n dX6_firstRefused_22 0 rfl ?_
    refine aw_iaddN (12 * t) i dX6_firstRefused_23 rfl rfl ?_
    refine aw_ialdN ((12 * t) + i) dX6_firstRefused_24 (((sT_tkM M x y).TR hT).s 4 (by decide)) (((sT_tkM M x y).TR hT).n 4 (by decide)) rfl (by omega) (by first | decide | omega) ?_
    refine aw_topE ((congrFun (tkM_I M x y (by decide)) _).trans (hW i (by omega))) ?_
    refine aw_aload_n dX6_firstRefused_25 1 rfl ?_
    refine aw_getR (b := 5) dX6_firstRefused_26 fl_X6_23 rfl (((sT_tkM M x y).TR hT).s 0 (by decide)) (((sT_tkM M x y).TR hT).n 0 (by decide)) (((sT_tkM M x y).TR hT).r 4) ?_
    refine aw_bipush (v := 12) dX6_firstRefused_29 (by decide) ?_
    refine aw_iload_n dX6_firstRefused_31 2 rfl ?_
    refine aw_imulN 12 t dX6_firstRefused_32 rfl rfl ?_
    refine aw_iload_n dX6_firstRefused_33 0 rfl ?_
    refine aw_iaddN (12 * t) i dX6_firstRefused_34 rfl rfl ?_
    refine aw_laldN ((12 * t) + i) dX6_firstRefused_35 (((sT_tkM M x y).TR hT).s 5 (by decide)) (((sT_tkM M x y).TR hT).n 5 (by decide)) rfl (by omega) (by first | decide | omega) ?_
    refine aw_toplE ((congrFun (tkM_L M x y (by decide)) _).trans (hV i (by omega))) ?_
    refine aw_callVi [.int (nI b), .int (nI (W i)), .long (V i)] [] (sp_takesS (d := d - 1) (by omega) x y b (W i) (V i) hT hb (hw i (by omega)) (h13 i (by omega)) (h6 i (by omega))) dX6_firstRefused_36 ml_X6_213 im_X6_takes (((sT_tkM M x y).TR hT).s 0 (by decide)) (((sT_tkM M x y).TR hT).n 0 (by decide)) rfl rfl (dl1 (d := d) (by omega)) rfl rfl (Nat.le_of_ble_eq_true rfl) rfl rfl (Nat.zero_le _) (Nat.zero_le _) ?_
    refine aw_if_ne 44 dX6_firstRefused_39 (by decide) (fun c2 => absurd (bz_0.mpr hf) c2) (fun c2 => ?_)
    refine aw_iload_n dX6_firstRefused_42 0 rfl ?_
    refine aw_iret dX6_firstRefused_43 rfl (Nat.zero_le _) (Nat.zero_le _) ?_
    exact ⟨rfl, _, _, rfl⟩
  | succ n ih =>
    intro i x y hi h
    have h0 := h i (by omega) (by omega)
    refine aw_iload_n dX6_firstRefused_2 0 rfl ?_
    refine aw_aload_n dX6_firstRefused_3 1 rfl ?_
    refine aw_getR (b := 2) dX6_firstRefused_4 fl_X6_13 rfl (((sT_tkM M x y).TR hT).s 0 (by decide)) (((sT_tkM M x y).TR hT).n 0 (by decide)) (((sT_tkM M x y).TR hT).r 1) ?_
    refine aw_iload_n dX6_firstRefused_7 2 rfl ?_
    refine aw_ialdN t dX6_firstRefused_8 (((sT_tkM M x y).TR hT).s 2 (by decide)) (((sT_tkM M x y).TR hT).n 2 (by decide)) rfl (by omega) (by first | decide | omega) ?_
    refine aw_topE ((congrFun (tkM_I M x y (by decide)) t).trans hz) ?_
    refine aw_icmp_geN i z 50 dX6_firstRefused_9 (by decide) rfl rfl (by omega) (by omega) (fun c1 => absurd c1 (by omega)) (fun c1 => ?_)
    refine aw_aload_n dX6_firstRefused_12 1 rfl ?_
    refine aw_iload_n dX6_firstRefused_13 3 rfl ?_
    refine aw_aload_n dX6_firstRefused_14 1 rfl ?_
    refine aw_getR (b := 4) dX6_firstRefused_15 fl_X6_20 rfl (((sT_tkM M x y).TR hT).s 0 (by decide)) (((sT_tkM M x y).TR hT).n 0 (by decide)) (((sT_tkM M x y).TR hT).r 3) ?_
    refine aw_bipush (v := 12) dX6_firstRefused_18 (by decide) ?_
    refine aw_iload_n dX6_firstRefused_20 2 rfl ?_
    refine aw_imulN 12 t dX6_firstRefused_21 rfl rfl ?_
    refine aw_iload_n dX6_firstRefused_22 0 rfl ?_
    refine aw_iaddN (12 * t) i dX6_firstRefused_23 rfl rfl ?_
    refine aw_ialdN ((12 * t) + i) dX6_firstRefused_24 (((sT_tkM M x y).TR hT).s 4 (by decide)) (((sT_tkM M x y).TR hT).n 4 (by decide)) rfl (by omega) (by first | decide | omega) ?_
    refine aw_topE ((congrFun (tkM_I M x y (by decide)) _).trans (hW i (by omega))) ?_
    refine aw_aload_n dX6_firstRefused_25 1 rfl ?_
    refine aw_getR (b := 5) dX6_firstRefused_26 fl_X6_23 rfl (((sT_tkM M x y).TR hT).s 0 (by decide)) (((sT_tkM M x y).TR hT).n 0 (by decide)) (((sT_tkM M x y).TR hT).r 4) ?_
    refine aw_bipush (v := 12) dX6_firstRefused_29 (by decide) ?_
    refine aw_iload_n dX6_firstRefused_31 2 rfl ?_
    refine aw_imulN 12 t dX6_firstRefused_32 rfl rfl ?_
    refine aw_iload_n dX6_firstRefused_33 0 rfl ?_
    refine aw_iaddN (12 * t) i dX6_firstRefused_34 rfl rfl ?_
    refine aw_laldN ((12 * t) + i) dX6_firstRefused_35 (((sT_tkM M x y).TR hT).s 5 (by decide)) (((sT_tkM M x y).TR hT).n 5 (by decide)) rfl (by omega) (by first | decide | omega) ?_
    refine aw_toplE ((congrFun (tkM_L M x y (by decide)) _).trans (hV i (by omega))) ?_
    refine aw_callVi [.int (nI b), .int (nI (W i)), .long (V i)] [] (sp_takesS (d := d - 1) (by omega) x y b (W i) (V i) hT hb (hw i (by omega)) (h13 i (by omega)) (h6 i (by omega))) dX6_firstRefused_36 ml_X6_213 im_X6_takes (((sT_tkM M x y).TR hT).s 0 (by decide)) (((sT_tkM M x y).TR hT).n 0 (by decide)) rfl rfl (dl1 (d := d) (by omega)) rfl rfl (Nat.le_of_ble_eq_true rfl) rfl rfl (Nat.zero_le _) (Nat.zero_le _) ?_
    refine aw_if_ne 44 dX6_firstRefused_39 (by decide) (fun c2 => ?_) (fun c2 => absurd c2 (bz_n0.mpr h0))
    refine aw_iincN i 1 [(3, .int (nI (i + 1))), (0, .ref 0), (1, .int (nI t)), (2, .int (nI b))] dX6_firstRefused_44 0 rfl rfl rfl (Nat.le_of_ble_eq_true rfl) rfl ?_
    refine aw_goto 2 dX6_firstRefused_47 (by decide) ?_
    exact ih (i + 1) _ _ (by omega) (fun k k1 k2 => h k (by omega) k2)
theorem sp_fr_all {d : Nat} (hd : 4 ≤ d) {M : xM} {t : Nat} (b z : Nat) (W : Nat → Nat) (V : Nat → Int64) (hT : TR M) (ht : t < 24) (hz : mI M 2 t = nI z) (hz2 : z ≤ 12) (hW : ∀ k, k < z → mI M 4 (12 * t + k) = nI (W k)) (hV : ∀ k, k < z → mL M 5 (12 * t + k) = V k) (hb : b < 14) (hw : ∀ k, k < z → W k < 12) (h13 : ∀ k, k < z → b = 13 → W k = 10 → vp_in (V k).toInt32 24) (h6 : ∀ k, k < z → W k = 6 → okF 6 (V k)) (h : ∀ k, k < z → tkB (kd4 M (V k)) b (W k) (V k) = true) : Sp (fX6_firstRefused d) [.ref 0, .int (nI t), .int (nI b)] M (fun r M' => r = some (.int (-1)) ∧ ∃ x y, M' = tkM M x y) := by
  refine Sp.of pn_X6 (Nat.le_of_ble_eq_true rfl) (fun h => Bool.noConfusion h) ?_
  refine aw_iconst (v := 0) dX6_firstRefused_0 (by decide) ?_
  refine aw_istore_n [(3, .int 0), (0, .ref 0), (1, .int (nI t)), (2, .int (nI b))] dX6_firstRefused_1 (Nat.le_of_ble_eq_true rfl) rfl ?_
  refine aw_eqM (tkM_id M) ?_
  exact fr_all hd b z W V hT ht hz hz2 hW hV hb hw h13 h6 z 0 _ _ (by omega) (fun k _ k2 => h k k2)
theorem sp_fr_ref {d : Nat} (hd : 4 ≤ d) {M : xM} {t : Nat} (b z : Nat) (W : Nat → Nat) (V : Nat → Int64) (hT : TR M) (ht : t < 24) (hz : mI M 2 t = nI z) (hz2 : z ≤ 12) (hW : ∀ k, k < z → mI M 4 (12 * t + k) = nI (W k)) (hV : ∀ k, k < z → mL M 5 (12 * t + k) = V k) (hb : b < 14) (hw : ∀ k, k < z → W k < 12) (h13 : ∀ k, k < z → b = 13 → W k = 10 → vp_in (V k).toInt32 24) (h6 : ∀ k, k < z → W k = 6 → okF 6 (V k)) (m : Nat) (hm : m < z) (hf : tkB (kd4 M (V m)) b (W m) (V m) = false) (h : ∀ k, k < m → tkB (kd4 M (V k)) b (W k) (V k) = true) : Sp (fX6_firstRefused d) [.ref 0, .int (nI t), .int (nI b)] M (fun r M' => r = some (.int (nI m)) ∧ ∃ x y, M' = tkM M x y) := by
  refine Sp.of pn_X6 (Nat.le_of_ble_eq_true rfl) (fun h => Bool.noConfusion h) ?_
  refine aw_iconst (v := 0) dX6_firstRefused_0 (by decide) ?_
  refine aw_istore_n [(3, .int 0), (0, .ref 0), (1, .int (nI t)), (2, .int (nI b))] dX6_firstRefused_1 (Nat.le_of_ble_eq_true rfl) rfl ?_
  refine aw_eqM (tkM_id M) ?_
  exact fr_ref hd b z W V hT ht hz hz2 hW hV hb hw h13 h6 m hm hf m 0 _ _ (by omega) (fun k _ k2 => h k k2)
noncomputable def cvY (M : xM) (f b z : Nat) (W : Nat → Nat) (V : Nat → Int64) (i : Nat) : xM := flL (flI (begM M f (nI b) (nI z)) 4 (12 * f) i (fun k => nI (hwt b (W k)))) 5 (12 * f) i (fun k => hvl b (W k) (V k))
theorem sT_cvY (M : xM) (f b z : Nat) (W : Nat → Nat) (V : Nat → Int64) (i : Nat) : sT M (cvY M f b z W V i) := ⟨rfl, rfl, rfl⟩
theorem cvY_s (M : xM) (f b z : Nat) (W : Nat → Nat) (V : Nat → Int64) (i : Nat) (x : Int32) (y : Int64) : celM (tkM (cvY M f b z W V i) x y) (12 * f + i) (nI (hwt b (W i))) (hvl b (W i) (V i)) = tkM (cvY M f b z W V (i + 1)) x y := by
  have h := flIL_s (begM M f (nI b) (nI z)) 4 (12 * f) 5 (12 * f) i (fun k => nI (hwt b (W k))) (fun k => hvl b (W k) (V k)) (v := nI (hwt b (W i))) (w := hvl b (W i) (V i)) rfl rfl
  unfold cvY
  rw [← h]
  generalize flL (flI (begM M f (nI b) (nI z)) 4 (12 * f) i (fun k => nI (hwt b (W k)))) 5 (12 * f) i (fun k => hvl b (W k) (V k)) = X
  unfold celM tkM stL stI
  refine Prod.ext ?_ (Prod.ext ?_ rfl)
  · funext p q
    show xup (xup X.1 0 27 x) 4 (12 * f + i) (nI (hwt b (W i))) p q = xup (xup X.1 4 (12 * f + i) (nI (hwt b (W i)))) 0 27 x p q
    unfold xup
    by_cases c : p = 0
    · subst c; simp
    · simp [c]
  · funext p q
    show xup (xup X.2.1 0 28 y) 5 (12 * f + i) (hvl b (W i) (V i)) p q = xup (xup X.2.1 5 (12 * f + i) (hvl b (W i) (V i))) 0 28 y p q
    unfold xup
    by_cases c : p = 0
    · subst c; simp
    · simp [c]
theorem begM_k (M : xM) (t : Nat) (x y : Int32) {a : Nat} (h : a = 1 ∨ a = 2 → False) (h4 : a ≠ 4) : mI (begM M t x y) a = mI M a := by
  unfold begM
  rw [mI_flL, mI_flI_ne _ h4, mI_stL_c, mI_stI_c _ _ _ (fun z => h (Or.inr z)), mI_stI_c _ _ _ (fun z => h (Or.inl z))]
theorem cvY_1 (M : xM) (f b z : Nat) (W : Nat → Nat) (V : Nat → Int64) (i u : Nat) : mI (cvY M f b z W V i) 1 u = (if u = f then nI b else mI M 1 u) ∧ mI (cvY M f b z W V i) 2 u = (if u = f then nI z else mI M 2 u) := by
  unfold cvY
  rw [mI_flL, mI_flI_ne _ (by decide), mI_flI_ne _ (by decide)]
  exact ⟨begM_1 _ _ _ _ _, begM_2 _ _ _ _ _⟩
theorem cvY_4 (M : xM) (f b z : Nat) (W : Nat → Nat) (V : Nat → Int64) {i u j : Nat} (hi : i ≤ 12) (h : u ≠ f) (hj : j < 12) : mI (cvY M f b z W V i) 4 (12 * u + j) = mI M 4 (12 * u + j) ∧ mL (cvY M f b z W V i) 5 (12 * u + j) = mL M 5 (12 * u + j) := by
  unfold cvY
  rw [mI_flL, mI_flI_oy _ (by omega), mL_flL_oy _ (by omega)]
  exact ⟨begM_4o _ _ _ _ h hj, begM_5o _ _ _ _ h hj⟩
theorem cv_l {d : Nat} (hd : 4 ≤ d) {M : xM} {t : Nat} (b z f : Nat) (W : Nat → Nat) (V : Nat → Int64) (hT : TR M) (ht : t < 24) (hz : mI M 2 t = nI z) (hz2 : z ≤ 12) (hW : ∀ k, k < z → mI M 4 (12 * t + k) = nI (W k)) (hV : ∀ k, k < z → mL M 5 (12 * t + k) = V k) (hb : b < 14) (hw : ∀ k, k < z → W k < 12) (h13 : ∀ k, k < z → b = 13 → W k = 10 → vp_in (V k).toInt32 24) (h6 : ∀ k, k < z → W k = 6 → okF 6 (V k)) (hf : f < 12) (htf : t ≠ f) (h : ∀ k, k < z → tkB (kd4 M (V k)) b (W k) (V k) = true) (hk4 : b = 13 → ∀ j i, i < z → kd4 (cvY M f b z W V j) (V i) = kd4 M (V i)) : ∀ (n i : Nat) (x : Int32) (y : Int64), i + n = z → AW (fX6_converted d) 20 [(4, .int (nI i)), (3, .int (nI f)), (0, .ref 0), (1, .int (nI t)), (2, .int (nI b))] [] (tkM (cvY M f b z W V i) x y) 0 0 (fun r M' => r = some (.int (nI f)) ∧ ∃ x y, M' = tX6_tells (tkM (cvY M f b z W V z) x y) 0 (-1)) := by
  intro n
  induction n with
  | zero =>
    intro i x y hi
    obtain rfl : i = z := by omega
    have hz' : mI (tkM (cvY M f b i W V i) x y) 2 t = nI i := by rw [tkM_I _ _ _ (by decide), (cvY_1 M f b i W V i t).2, if_neg htf]; exact hz
    refine aw_iload dX6_converted_20 0 rfl ?_
    refine aw_aload_n dX6_converted_22 2 rfl ?_
    refine aw_getR (b := 2) dX6_converted_23 fl_X6_13 rfl (((sT_tkM (cvY M f b i W V i) x y).TR ((sT_cvY M f b i W V i).TR hT)).s 0 (by decide)) (((sT_tkM (cvY M f b i W V i) x y).TR ((sT_cvY M f b i W V i).TR hT)).n 0 (by decide)) (((sT_tkM (cvY M f b i W V i) x y).TR ((sT_cvY M f b i W V i).TR hT)).r 1) ?_
    refine aw_iload_n dX6_converted_26 3 rfl ?_
    refine aw_ialdN t dX6_converted_27 (((sT_tkM (cvY M f b i W V i) x y).TR ((sT_cvY M f b i W V i).TR hT)).s 2 (by decide)) (((sT_tkM (cvY M f b i W V i) x y).TR ((sT_cvY M f b i W V i).TR hT)).n 2 (by decide)) rfl (by omega) (by first | decide | omega) ?_
    refine aw_topE hz' ?_
    refine aw_icmp_geN i i 99 dX6_converted_28 (by decide) rfl rfl (by omega) (by omega) (fun c1 => ?_) (fun c1 => absurd (by omega) c1)
    refine aw_aload_n dX6_converted_99 2 rfl ?_
    refine aw_iconst (v := 0) dX6_converted_100 (by decide) ?_
    refine aw_iconst (v := -1) dX6_converted_101 (by decide) ?_
    refine aw_callVi [.int 0, .int (-1)] [] (sp_X6_tells (d := d - 1) (by omega) 0 (-1) ((sT_tkM (cvY M f b i W V i) x y).TR ((sT_cvY M f b i W V i).TR hT))) dX6_converted_102 ml_X6_192 im_X6_tells (((sT_tkM (cvY M f b i W V i) x y).TR ((sT_cvY M f b i W V i).TR hT)).s 0 (by decide)) (((sT_tkM (cvY M f b i W V i) x y).TR ((sT_cvY M f b i W V i).TR hT)).n 0 (by decide)) rfl rfl (dl1 (d := d) (by omega)) rfl rfl (Nat.le_of_ble_eq_true rfl) rfl rfl (Nat.zero_le _) (Nat.zero_le _) ?_
    refine aw_pop dX6_converted_105 rfl ?_
    refine aw_iload_n dX6_converted_106 1 rfl ?_
    refine aw_iret dX6_converted_107 rfl (Nat.zero_le _) (Nat.zero_le _) ?_
    exact ⟨rfl, x, y, rfl⟩
  | succ n ih =>
    intro i x y hi
    have hz' : mI (tkM (cvY M f b z W V i) x y) 2 t = nI z := by rw [tkM_I _ _ _ (by decide), (cvY_1 M f b z W V i t).2, if_neg htf]; exact hz
    have hW' : mI (tkM (cvY M f b z W V i) x y) 4 (12 * t + i) = nI (W i) := by rw [tkM_I _ _ _ (by decide), (cvY_4 M f b z W V (by omega) htf (by omega)).1]; exact hW i (by omega)
    have hV' : mL (tkM (cvY M f b z W V i) x y) 5 (12 * t + i) = V i := by rw [tkM_L _ _ _ (by decide), (cvY_4 M f b z W V (by omega) htf (by omega)).2]; exact hV i (by omega)
    have h0 : tkB (kd4 (cvY M f b z W V i) (V i)) b (W i) (V i) = true := by
      by_cases c : b = 13
      · rw [hk4 c i i (by omega)]; exact h i (by omega)
      · have := h i (by omega)
        unfold tkB at this ⊢
        by_cases c8 : b < 8
        · rw [if_pos c8] at this ⊢; exact this
        · rw [if_neg c8] at this ⊢
          by_cases q : W i = 11 ∨ b = 12
          · rw [if_pos q]
          · rw [if_neg q] at this ⊢
            by_cases q1 : b = 8
            · rw [if_pos q1] at this ⊢; exact this
            · rw [if_neg q1] at this ⊢
              by_cases q2 : b = 9
              · rw [if_pos q2] at this ⊢; exact this
              · rw [if_neg q2] at this ⊢
                by_cases q3 : b = 10
                · rw [if_pos q3] at this ⊢; exact this
                · rw [if_neg q3] at this ⊢
                  rw [if_pos (by omega)] at this ⊢
                  exact this
    refine aw_iload dX6_converted_20 0 rfl ?_
    refine aw_aload_n dX6_converted_22 2 rfl ?_
    refine aw_getR (b := 2) dX6_converted_23 fl_X6_13 rfl (((sT_tkM (cvY M f b z W V i) x y).TR ((sT_cvY M f b z W V i).TR hT)).s 0 (by decide)) (((sT_tkM (cvY M f b z W V i) x y).TR ((sT_cvY M f b z W V i).TR hT)).n 0 (by decide)) (((sT_tkM (cvY M f b z W V i) x y).TR ((sT_cvY M f b z W V i).TR hT)).r 1) ?_
    refine aw_iload_n dX6_converted_26 3 rfl ?_
    refine aw_ialdN t dX6_converted_27 (((sT_tkM (cvY M f b z W V i) x y).TR ((sT_cvY M f b z W V i).TR hT)).s 2 (by decide)) (((sT_tkM (cvY M f b z W V i) x y).TR ((sT_cvY M f b z W V i).TR hT)).n 2 (by decide)) rfl (by omega) (by first | decide | omega) ?_
    refine aw_topE hz' ?_
    refine aw_icmp_geN i z 99 dX6_converted_28 (by decide) rfl rfl (by omega) (by omega) (fun c1 => absurd c1 (by omega)) (fun c1 => ?_)
    refine aw_aload_n dX6_converted_31 2 rfl ?_
    refine aw_iload_n dX6_converted_32 4 rfl ?_
    refine aw_aload_n dX6_converted_33 2 rfl ?_
    refine aw_getR (b := 4) dX6_converted_34 fl_X6_20 rfl (((sT_tkM (cvY M f b z W V i) x y).TR ((sT_cvY M f b z W V i).TR hT)).s 0 (by decide)) (((sT_tkM (cvY M f b z W V i) x y).TR ((sT_cvY M f b z W V i).TR hT)).n 0 (by decide)) (((sT_tkM (cvY M f b z W V i) x y).TR ((sT_cvY M f b z W V i).TR hT)).r 3) ?_
    refine aw_bipush (v := 12) dX6_converted_37 (by decide) ?_
    refine aw_iload_n dX6_converted_39 3 rfl ?_
    refine aw_imulN 12 t dX6_converted_40 rfl rfl ?_
    refine aw_iload dX6_converted_41 0 rfl ?_
    refine aw_iaddN (12 * t) i dX6_converted_43 rfl rfl ?_
    refine aw_ialdN ((12 * t) + i) dX6_converted_44 (((sT_tkM (cvY M f b z W V i) x y).TR ((sT_cvY M f b z W V i).TR hT)).s 4 (by decide)) (((sT_tkM (cvY M f b z W V i) x y).TR ((sT_cvY M f b z W V i).TR hT)).n 4 (by decide)) rfl (by omega) (by first | decide | omega) ?_
    refine aw_topE hW' ?_
    refine aw_aload_n dX6_converted_45 2 rfl ?_
    refine aw_getR (b := 5) dX6_converted_46 fl_X6_23 rfl (((sT_tkM (cvY M f b z W V i) x y).TR ((sT_cvY M f b z W V i).TR hT)).s 0 (by decide)) (((sT_tkM (cvY M f b z W V i) x y).TR ((sT_cvY M f b z W V i).TR hT)).n 0 (by decide)) (((sT_tkM (cvY M f b z W V i) x y).TR ((sT_cvY M f b z W V i).TR hT)).r 4) ?_
    refine aw_bipush (v := 12) dX6_converted_49 (by decide) ?_
    refine aw_iload_n dX6_converted_51 3 rfl ?_
    refine aw_imulN 12 t dX6_converted_52 rfl rfl ?_
    refine aw_iload dX6_converted_53 0 rfl ?_
    refine aw_iaddN (12 * t) i dX6_converted_55 rfl rfl ?_
    refine aw_laldN ((12 * t) + i) dX6_converted_56 (((sT_tkM (cvY M f b z W V i) x y).TR ((sT_cvY M f b z W V i).TR hT)).s 5 (by decide)) (((sT_tkM (cvY M f b z W V i) x y).TR ((sT_cvY M f b z W V i).TR hT)).n 5 (by decide)) rfl (by omega) (by first | decide | omega) ?_
    refine aw_toplE hV' ?_
    refine aw_callVi [.int (nI b), .int (nI (W i)), .long (V i)] [] (show Sp (fX6_takes (d - 1)) [.ref 0, .int (nI b), .int (nI (W i)), .long (V i)] (tkM (cvY M f b z W V i) x y) (dt (some (.int (bz true))) (tkM (cvY M f b z W V i) (nI (hwt b (W i))) (hvl b (W i) (V i)))) by have q := sp_takesS (d := d - 1) (by omega) x y b (W i) (V i) ((sT_cvY M f b z W V i).TR hT) hb (hw i (by omega)) (h13 i (by omega)) (h6 i (by omega)); rw [h0] at q; exact q) dX6_converted_57 ml_X6_213 im_X6_takes (((sT_tkM (cvY M f b z W V i) x y).TR ((sT_cvY M f b z W V i).TR hT)).s 0 (by decide)) (((sT_tkM (cvY M f b z W V i) x y).TR ((sT_cvY M f b z W V i).TR hT)).n 0 (by decide)) rfl rfl (dl1 (d := d) (by omega)) rfl rfl (Nat.le_of_ble_eq_true rfl) rfl rfl (Nat.zero_le _) (Nat.zero_le _) ?_
    refine aw_pop dX6_converted_60 rfl ?_
    refine aw_aload_n dX6_converted_61 2 rfl ?_
    refine aw_getR (b := 4) dX6_converted_62 fl_X6_20 rfl (((sT_tkM (cvY M f b z W V i) _ _).TR ((sT_cvY M f b z W V i).TR hT)).s 0 (by decide)) (((sT_tkM (cvY M f b z W V i) _ _).TR ((sT_cvY M f b z W V i).TR hT)).n 0 (by decide)) (((sT_tkM (cvY M f b z W V i) _ _).TR ((sT_cvY M f b z W V i).TR hT)).r 3) ?_
    refine aw_bipush (v := 12) dX6_converted_65 (by decide) ?_
    refine aw_iload_n dX6_converted_67 1 rfl ?_
    refine aw_imulN 12 f dX6_converted_68 rfl rfl ?_
    refine aw_iload dX6_converted_69 0 rfl ?_
    refine aw_iaddN (12 * f) i dX6_converted_71 rfl rfl ?_
    refine aw_aload_n dX6_converted_72 2 rfl ?_
    refine aw_getI dX6_converted_73 fl_X6_121 (((sT_tkM (cvY M f b z W V i) _ _).TR ((sT_cvY M f b z W V i).TR hT)).s 0 (by decide)) (((sT_tkM (cvY M f b z W V i) _ _).TR ((sT_cvY M f b z W V i).TR hT)).n 0 (by decide)) ?_
    refine aw_topE (tkM_27 _ _ _).1 ?_
    refine aw_iastN ((12 * f) + i) dX6_converted_76 (((sT_tkM (cvY M f b z W V i) _ _).TR ((sT_cvY M f b z W V i).TR hT)).s 4 (by decide)) (((sT_tkM (cvY M f b z W V i) _ _).TR ((sT_cvY M f b z W V i).TR hT)).n 4 (by decide)) rfl (by omega) (by first | decide | omega) ?_
    refine aw_aload_n dX6_converted_77 2 rfl ?_
    refine aw_getR (b := 5) dX6_converted_78 fl_X6_23 rfl (((sT_tkM (cvY M f b z W V i) _ _).TR ((sT_cvY M f b z W V i).TR hT)).s 0 (by decide)) (((sT_tkM (cvY M f b z W V i) _ _).TR ((sT_cvY M f b z W V i).TR hT)).n 0 (by decide)) (((sT_tkM (cvY M f b z W V i) _ _).TR ((sT_cvY M f b z W V i).TR hT)).r 4) ?_
    refine aw_bipush (v := 12) dX6_converted_81 (by decide) ?_
    refine aw_iload_n dX6_converted_83 1 rfl ?_
    refine aw_imulN 12 f dX6_converted_84 rfl rfl ?_
    refine aw_iload dX6_converted_85 0 rfl ?_
    refine aw_iaddN (12 * f) i dX6_converted_87 rfl rfl ?_
    refine aw_aload_n dX6_converted_88 2 rfl ?_
    refine aw_getL dX6_converted_89 fl_X6_124 (((sT_tkM (cvY M f b z W V i) _ _).TR ((sT_cvY M f b z W V i).TR hT)).s 0 (by decide)) (((sT_tkM (cvY M f b z W V i) _ _).TR ((sT_cvY M f b z W V i).TR hT)).n 0 (by decide)) ?_
    refine aw_toplE (show _ = hvl b (W i) (V i) from ?_) ?_
    · rw [mL_stI_c]; exact (tkM_27 _ _ _).2
    refine aw_lastN ((12 * f) + i) dX6_converted_92 (((sT_tkM (cvY M f b z W V i) _ _).TR ((sT_cvY M f b z W V i).TR hT)).s 5 (by decide)) (((sT_tkM (cvY M f b z W V i) _ _).TR ((sT_cvY M f b z W V i).TR hT)).n 5 (by decide)) rfl (by omega) (by first | decide | omega) ?_
    refine aw_iincN i 1 [(4, .int (nI (i + 1))), (3, .int (nI f)), (0, .ref 0), (1, .int (nI t)), (2, .int (nI b))] dX6_converted_93 0 rfl rfl rfl (Nat.le_of_ble_eq_true rfl) rfl ?_
    refine aw_goto 20 dX6_converted_96 (by decide) ?_
    refine aw_eqM (cvY_s M f b z W V i _ _) ?_
    exact ih (i + 1) _ _ (by omega)
theorem sp_X6_converted {d : Nat} (hd : 4 ≤ d) {M : xM} {t : Nat} (b z f : Nat) (W : Nat → Nat) (V : Nat → Int64) (hT : TR M) (ht : t < 24) (hz : mI M 2 t = nI z) (hz2 : z ≤ 12) (hW : ∀ k, k < z → mI M 4 (12 * t + k) = nI (W k)) (hV : ∀ k, k < z → mL M 5 (12 * t + k) = V k) (hb : b < 14) (hw : ∀ k, k < z → W k < 12) (h13 : ∀ k, k < z → b = 13 → W k = 10 → vp_in (V k).toInt32 24) (h6 : ∀ k, k < z → W k = 6 → okF 6 (V k)) (hf : f < 12) (hl : sX6_free M = nI f) (htf : t ≠ f) (h : ∀ k, k < z → tkB (kd4 M (V k)) b (W k) (V k) = true) (hk4 : b = 13 → ∀ j i, i < z → kd4 (cvY M f b z W V j) (V i) = kd4 M (V i)) : Sp (fX6_converted d) [.ref 0, .int (nI t), .int (nI b)] M (fun r M' => r = some (.int (nI f)) ∧ ∃ x y, M' = tX6_tells (tkM (cvY M f b z W V z) x y) 0 (-1)) := by
  refine Sp.of pn_X6 (Nat.le_of_ble_eq_true rfl) (fun h => Bool.noConfusion h) ?_
  refine aw_aload_n dX6_converted_0 0 rfl ?_
  refine aw_callVi [] [] (sp_X6_free (d := d - 1) (by omega) hT) dX6_converted_1 ml_X6_151 im_X6_free (hT.s 0 (by decide)) (hT.n 0 (by decide)) rfl rfl (dl1 (d := d) (by omega)) rfl rfl (Nat.le_of_ble_eq_true rfl) rfl rfl (Nat.zero_le _) (Nat.zero_le _) ?_
  refine aw_topE hl ?_
  refine aw_istore_n [(3, .int (nI f)), (0, .ref 0), (1, .int (nI t)), (2, .int (nI b))] dX6_converted_4 (Nat.le_of_ble_eq_true rfl) rfl ?_
  refine aw_aload_n dX6_converted_5 1 rfl ?_
  refine aw_iload_n dX6_converted_6 0 rfl ?_
  refine aw_iload_n dX6_converted_7 3 rfl ?_
  refine aw_aload_n dX6_converted_8 1 rfl ?_
  refine aw_getR (b := 2) dX6_converted_9 fl_X6_13 rfl (hT.s 0 (by decide)) (hT.n 0 (by decide)) (hT.r 1) ?_
  refine aw_iload_n dX6_converted_12 2 rfl ?_
  refine aw_ialdN t dX6_converted_13 (hT.s 2 (by decide)) (hT.n 2 (by decide)) rfl (by omega) (by first | decide | omega) ?_
  refine aw_topE hz ?_
  refine aw_callVv [.int (nI f), .int (nI b), .int (nI z)] [] (sp_X6_begins (d := d - 1) (by omega) f (nI b) (nI z) hT (by omega)) dX6_converted_14 ml_X6_155 im_X6_begins (hT.s 0 (by decide)) (hT.n 0 (by decide)) rfl rfl (dl1 (d := d) (by omega)) rfl rfl (Nat.le_of_ble_eq_true rfl) rfl rfl (Nat.zero_le _) (Nat.zero_le _) ?_
  refine aw_iconst (v := 0) dX6_converted_17 (by decide) ?_
  refine aw_istore [(4, .int 0), (3, .int (nI f)), (0, .ref 0), (1, .int (nI t)), (2, .int (nI b))] dX6_converted_18 (Nat.le_of_ble_eq_true rfl) rfl ?_
  refine aw_eqM (show _ = tkM (cvY M f b z W V 0) _ _ from ((flIL_0 _ _ _ _ _ _ _).symm).trans (tkM_id _)) ?_
  exact cv_l hd b z f W V hT ht hz hz2 hW hV hb hw h13 h6 hf htf h hk4 z 0 _ _ (by omega)
