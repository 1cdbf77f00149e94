-- SUM: contracts
theorem wid_le {a b : Nat} (h : b ≤ 5) (v : Int64) : wid a b v = v := if_pos (Or.inr h)
noncomputable abbrev D6 (a : Nat) (V : Nat → Int64) (i : Nat) : UInt32 := FP.d2f (unk 6 (wid a 6 (V i)))
noncomputable abbrev D7 (a : Nat) (V : Nat → Int64) (i : Nat) : UInt64 := unk 7 (wid a 7 (V i))
theorem lp_ws {d : Nat} {M : xM} {a z b k : Nat} {V : Nat → Int64} (hR : RowAt M a) (hz : mI M a 1 = nI z) (hz2 : z ≤ 12) (hk : mI M a 0 = nI b) (hb : b < 8) (hV : ∀ k, k < z → mL M (a + 2) k = V k) {post : Option Value → xM → Prop} : ∀ (n i : Nat) (w : Int64), i + n = z → AW (fX5_wholeSum d) 30 [(4, .int (nI z)), (2, .long (wS V n i w)), (0, .ref a), (1, .int (nI k))] [] M 0 0 post → AW (fX5_wholeSum d) 5 [(4, .int (nI i)), (2, .long w), (0, .ref a), (1, .int (nI k))] [] M 0 0 post := by
  intro n
  induction n with
  | zero =>
    intro i w hi hp
    obtain rfl : i = z := by omega
    refine aw_iload dX5_wholeSum_5 0 rfl ?_
    refine aw_aload_n dX5_wholeSum_7 2 rfl ?_
    refine aw_getI dX5_wholeSum_8 fl_X5_104 hR.1 hR.n0 ?_
    refine aw_topE hz ?_
    refine aw_icmp_geN i i 30 dX5_wholeSum_11 (by decide) rfl rfl (by omega) (by omega) (fun c1 => ?_) (fun c1 => absurd (by omega) c1)
    exact hp
  | succ n ih =>
    intro i w hi hp
    refine aw_iload dX5_wholeSum_5 0 rfl ?_
    refine aw_aload_n dX5_wholeSum_7 2 rfl ?_
    refine aw_getI dX5_wholeSum_8 fl_X5_104 hR.1 hR.n0 ?_
    refine aw_topE hz ?_
    refine aw_icmp_geN i z 30 dX5_wholeSum_11 (by decide) rfl rfl (by omega) (by omega) (fun c1 => absurd c1 (by omega)) (fun c1 => ?_)
    refine aw_lload_n dX5_wholeSum_14 1 rfl ?_
    refine aw_aload_n dX5_wholeSum_15 2 rfl ?_
    refine aw_getR (b := a + 2) dX5_wholeSum_16 fl_X5_142 rfl hR.1 hR.n0 hR.2.2.2.2.1 ?_
    refine aw_iload dX5_wholeSum_19 0 rfl ?_
    refine aw_laldN i dX5_wholeSum_21 hR.2.2.1 hR.n2 rfl (by omega) (by first | decide | omega) ?_
    refine aw_toplE (hV i (by omega)) ?_
    refine aw_ladd dX5_wholeSum_22 ?_
    refine aw_lstore_n [(2, .long (w + (V i))), (4, .int (nI i)), (0, .ref a), (1, .int (nI k))] dX5_wholeSum_23 (Nat.le_of_ble_eq_true rfl) rfl ?_
    refine aw_iincN i 1 [(4, .int (nI (i + 1))), (2, .long (w + (V i))), (0, .ref a), (1, .int (nI k))] dX5_wholeSum_24 1 rfl rfl rfl (Nat.le_of_ble_eq_true rfl) rfl ?_
    refine aw_goto 5 dX5_wholeSum_27 (by decide) ?_
    exact ih (i + 1) _ (by omega) hp
theorem sp_ws4 {d : Nat} (hd : 0 ≤ d) {M : xM} {a z b : Nat} {V : Nat → Int64} (hR : RowAt M a) (hz : mI M a 1 = nI z) (hz2 : z ≤ 12) (hk : mI M a 0 = nI b) (hb : b < 8) (hV : ∀ k, k < z → mL M (a + 2) k = V k) : Sp (fX5_wholeSum d) [.ref a, .int (nI 4)] M (dt (some (.long ((wS V z 0 0).toInt32.toInt64))) M) := by
  refine Sp.of pn_X5 (Nat.le_of_ble_eq_true rfl) (fun h => Bool.noConfusion h) ?_
  refine aw_lconst (v := 0) dX5_wholeSum_0 (by decide) ?_
  refine aw_lstore_n [(2, .long 0), (0, .ref a), (1, .int (nI 4))] dX5_wholeSum_1 (Nat.le_of_ble_eq_true rfl) rfl ?_
  refine aw_iconst (v := 0) dX5_wholeSum_2 (by decide) ?_
  refine aw_istore [(4, .int 0), (2, .long 0), (0, .ref a), (1, .int (nI 4))] dX5_wholeSum_3 (Nat.le_of_ble_eq_true rfl) rfl ?_
  refine lp_ws (k := 4) hR hz hz2 hk hb hV z 0 0 (by omega) ?_
  refine aw_iload_n dX5_wholeSum_30 3 rfl ?_
  refine aw_iconst (v := 4) dX5_wholeSum_31 (by decide) ?_
  refine aw_icmp_neN 4 4 41 dX5_wholeSum_32 (by decide) rfl rfl (by omega) (by omega) (fun c1 => absurd rfl c1) (fun c1 => ?_)
  refine aw_lload_n dX5_wholeSum_35 1 rfl ?_
  refine aw_l2i dX5_wholeSum_36 ?_
  refine aw_i2l dX5_wholeSum_37 ?_
  refine aw_goto 42 dX5_wholeSum_38 (by decide) ?_
  refine aw_lret dX5_wholeSum_42 rfl (Nat.zero_le _) (Nat.zero_le _) ?_
  exact ⟨rfl, rfl⟩
theorem sp_ws5 {d : Nat} (hd : 0 ≤ d) {M : xM} {a z b : Nat} {V : Nat → Int64} (hR : RowAt M a) (hz : mI M a 1 = nI z) (hz2 : z ≤ 12) (hk : mI M a 0 = nI b) (hb : b < 8) (hV : ∀ k, k < z → mL M (a + 2) k = V k) : Sp (fX5_wholeSum d) [.ref a, .int (nI 5)] M (dt (some (.long (wS V z 0 0))) M) := by
  refine Sp.of pn_X5 (Nat.le_of_ble_eq_true rfl) (fun h => Bool.noConfusion h) ?_
  refine aw_lconst (v := 0) dX5_wholeSum_0 (by decide) ?_
  refine aw_lstore_n [(2, .long 0), (0, .ref a), (1, .int (nI 5))] dX5_wholeSum_1 (Nat.le_of_ble_eq_true rfl) rfl ?_
  refine aw_iconst (v := 0) dX5_wholeSum_2 (by decide) ?_
  refine aw_istore [(4, .int 0), (2, .long 0), (0, .ref a), (1, .int (nI 5))] dX5_wholeSum_3 (Nat.le_of_ble_eq_true rfl) rfl ?_
  refine lp_ws (k := 5) hR hz hz2 hk hb hV z 0 0 (by omega) ?_
  refine aw_iload_n dX5_wholeSum_30 3 rfl ?_
  refine aw_iconst (v := 4) dX5_wholeSum_31 (by decide) ?_
  refine aw_icmp_neN 5 4 41 dX5_wholeSum_32 (by decide) rfl rfl (by omega) (by omega) (fun c1 => ?_) (fun c1 => absurd c1 (by decide))
  refine aw_lload_n dX5_wholeSum_41 1 rfl ?_
  refine aw_lret dX5_wholeSum_42 rfl (Nat.zero_le _) (Nat.zero_le _) ?_
  exact ⟨rfl, rfl⟩
theorem lp_fs6 {d : Nat} (hd : 5 ≤ d) {M : xM} {a z b : Nat} {V : Nat → Int64} (hR : RowAt M a) (hz : mI M a 1 = nI z) (hz2 : z ≤ 12) (hk : mI M a 0 = nI b) (hb : b < 8) (hV : ∀ k, k < z → mL M (a + 2) k = V k) (h6 : ∀ k, k < z → b = 6 → okF 6 (V k)) (hF : ∀ k, k < z → okF 6 (wid b 6 (V k))) : ∀ (n i : Nat) (x : UInt32), i + n = z → M8 FP.Core.b32 (67 + 2 * i) (FP.Core.val32 x) → AW (fX5_floatSum d) 4 [(2, .int (nI i)), (1, .float x), (0, .ref a)] [] M 0 0 (dt (some (.long (fb 6 (FP.f2d (fS (D6 b V) n i x))))) M) := by
  intro n
  induction n with
  | zero =>
    intro i x hi hx
    obtain rfl : i = z := by omega
    have hD : isD 6 (FP.f2d x) := (M8_32 (by omega) hx).1
    refine aw_iload_n dX5_floatSum_4 0 rfl ?_
    refine aw_aload_n dX5_floatSum_5 2 rfl ?_
    refine aw_getI dX5_floatSum_6 fl_X5_104 hR.1 hR.n0 ?_
    refine aw_topE hz ?_
    refine aw_icmp_geN i i 42 dX5_floatSum_9 (by decide) rfl rfl (by omega) (by omega) (fun c1 => ?_) (fun c1 => absurd (by omega) c1)
    refine aw_bipush (v := 6) dX5_floatSum_42 (by decide) ?_
    refine aw_fload_n dX5_floatSum_44 1 rfl ?_
    refine aw_f2d dX5_floatSum_45 (M8_32 (by omega) hx).2.2 ?_
    refine aw_callSl [.int 6, .double (FP.f2d x)] [] (sp_X0_bitsOf (d := d - 1) (by omega) 6 (by decide) _ hD) dX5_floatSum_46 ml_X5_330 sm_X0_bitsOf rfl (dl1 (d := d) (by omega)) rfl rfl (Nat.le_of_ble_eq_true rfl) rfl rfl (Nat.zero_le _) (Nat.zero_le _) ?_
    refine aw_lret dX5_floatSum_49 rfl (Nat.zero_le _) (Nat.zero_le _) ?_
    exact ⟨rfl, rfl⟩
  | succ n ih =>
    intro i x hi hx
    have g := fadd_M8 (show i ≤ 11 by omega) hx (el6 (unk_s (hF i (by omega))).1 (unk_s (hF i (by omega))).2.1).1
    refine aw_iload_n dX5_floatSum_4 0 rfl ?_
    refine aw_aload_n dX5_floatSum_5 2 rfl ?_
    refine aw_getI dX5_floatSum_6 fl_X5_104 hR.1 hR.n0 ?_
    refine aw_topE hz ?_
    refine aw_icmp_geN i z 42 dX5_floatSum_9 (by decide) rfl rfl (by omega) (by omega) (fun c1 => absurd c1 (by omega)) (fun c1 => ?_)
    refine aw_fload_n dX5_floatSum_12 1 rfl ?_
    refine aw_bipush (v := 6) dX5_floatSum_13 (by decide) ?_
    refine aw_aload_n dX5_floatSum_15 2 rfl ?_
    refine aw_getI dX5_floatSum_16 fl_X5_98 hR.1 hR.n0 ?_
    refine aw_topE hk ?_
    refine aw_bipush (v := 6) dX5_floatSum_19 (by decide) ?_
    refine aw_aload_n dX5_floatSum_21 2 rfl ?_
    refine aw_getR (b := a + 2) dX5_floatSum_22 fl_X5_142 rfl hR.1 hR.n0 hR.2.2.2.2.1 ?_
    refine aw_iload_n dX5_floatSum_25 0 rfl ?_
    refine aw_laldN i dX5_floatSum_26 hR.2.2.1 hR.n2 rfl (by omega) (by first | decide | omega) ?_
    refine aw_toplE (hV i (by omega)) ?_
    refine aw_callSl [.int (nI b), .int 6, .long (V i)] [.int 6, .float x] (sp_X0_widened (d := d - 1) (by omega) b 6 hb (by decide) (V i) (h6 i (by omega))) dX5_floatSum_27 ml_X5_146 sm_X0_widened rfl (dl1 (d := d) (by omega)) rfl rfl (Nat.le_of_ble_eq_true rfl) rfl rfl (Nat.zero_le _) (Nat.zero_le _) ?_
    refine aw_toplE (unk_s (hF i (by omega))).2.2 ?_
    refine aw_callSd [.int 6, .long (fb 6 (unk 6 (wid b 6 (V i))))] [.float x] (sp_X0_real (d := d - 1) (by omega) 6 (by decide) _ (unk_s (hF i (by omega))).1) dX5_floatSum_30 ml_X5_326 sm_X0_real rfl (dl1 (d := d) (by omega)) rfl rfl (Nat.le_of_ble_eq_true rfl) rfl rfl (Nat.zero_le _) (Nat.zero_le _) ?_
    refine aw_d2f dX5_floatSum_33 (el6 (unk_s (hF i (by omega))).1 (unk_s (hF i (by omega))).2.1).2 ?_
    refine aw_fadd dX5_floatSum_34 g.2 ?_
    refine aw_fstore_n [(1, .float (FP.fadd x (FP.d2f (unk 6 (wid b 6 (V i)))))), (2, .int (nI i)), (0, .ref a)] dX5_floatSum_35 (Nat.le_of_ble_eq_true rfl) rfl ?_
    refine aw_iincN i 1 [(2, .int (nI (i + 1))), (1, .float (FP.fadd x (FP.d2f (unk 6 (wid b 6 (V i)))))), (0, .ref a)] dX5_floatSum_36 1 rfl rfl rfl (Nat.le_of_ble_eq_true rfl) rfl ?_
    refine aw_goto 4 dX5_floatSum_39 (by decide) ?_
    exact ih (i + 1) _ (by omega) g.1
theorem sp_fs6 {d : Nat} (hd : 5 ≤ d) {M : xM} {a z b : Nat} {V : Nat → Int64} (hR : RowAt M a) (hz : mI M a 1 = nI z) (hz2 : z ≤ 12) (hk : mI M a 0 = nI b) (hb : b < 8) (hV : ∀ k, k < z → mL M (a + 2) k = V k) (h6 : ∀ k, k < z → b = 6 → okF 6 (V k)) (hF : ∀ k, k < z → okF 6 (wid b 6 (V k))) : Sp (fX5_floatSum d) [.ref a] M (dt (some (.long (fb 6 (FP.f2d (fS (D6 b V) z 0 FP.fconst0))))) M) := by
  refine Sp.of pn_X5 (Nat.le_of_ble_eq_true rfl) (fun h => Bool.noConfusion h) ?_
  refine aw_fconst0 dX5_floatSum_0 ?_
  refine aw_fstore_n [(1, .float FP.fconst0), (0, .ref a)] dX5_floatSum_1 (Nat.le_of_ble_eq_true rfl) rfl ?_
  refine aw_iconst (v := 0) dX5_floatSum_2 (by decide) ?_
  refine aw_istore_n [(2, .int 0), (1, .float FP.fconst0), (0, .ref a)] dX5_floatSum_3 (Nat.le_of_ble_eq_true rfl) rfl ?_
  exact lp_fs6 hd hR hz hz2 hk hb hV h6 hF z 0 _ (by omega) M8_f0
theorem lp_fs7 {d : Nat} (hd : 5 ≤ d) {M : xM} {a z b : Nat} {V : Nat → Int64} (hR : RowAt M a) (hz : mI M a 1 = nI z) (hz2 : z ≤ 12) (hk : mI M a 0 = nI b) (hb : b < 8) (hV : ∀ k, k < z → mL M (a + 2) k = V k) (h6 : ∀ k, k < z → b = 6 → okF 6 (V k)) (hF : ∀ k, k < z → okF 7 (wid b 7 (V k))) : ∀ (n i : Nat) (x : UInt64), i + n = z → M8 FP.Core.b64 (67 + 2 * i) (FP.Core.val64 x) → AW (fX5_doubleSum d) 4 [(3, .int (nI i)), (1, .double x), (0, .ref a)] [] M 0 0 (dt (some (.long (fb 7 ((dS (D7 b V) n i x))))) M) := by
  intro n
  induction n with
  | zero =>
    intro i x hi hx
    obtain rfl : i = z := by omega
    have hD : isD 7 x := (M8_64 (by omega) hx).1
    refine aw_iload_n dX5_doubleSum_4 0 rfl ?_
    refine aw_aload_n dX5_doubleSum_5 2 rfl ?_
    refine aw_getI dX5_doubleSum_6 fl_X5_104 hR.1 hR.n0 ?_
    refine aw_topE hz ?_
    refine aw_icmp_geN i i 41 dX5_doubleSum_9 (by decide) rfl rfl (by omega) (by omega) (fun c1 => ?_) (fun c1 => absurd (by omega) c1)
    refine aw_bipush (v := 7) dX5_doubleSum_41 (by decide) ?_
    refine aw_dload_n dX5_doubleSum_43 1 rfl ?_
    refine aw_callSl [.int 7, .double x] [] (sp_X0_bitsOf (d := d - 1) (by omega) 7 (by decide) _ hD) dX5_doubleSum_44 ml_X5_330 sm_X0_bitsOf rfl (dl1 (d := d) (by omega)) rfl rfl (Nat.le_of_ble_eq_true rfl) rfl rfl (Nat.zero_le _) (Nat.zero_le _) ?_
    refine aw_lret dX5_doubleSum_47 rfl (Nat.zero_le _) (Nat.zero_le _) ?_
    exact ⟨rfl, rfl⟩
  | succ n ih =>
    intro i x hi hx
    have g := dadd_M8 (show i ≤ 11 by omega) hx (el7 (unk_s (hF i (by omega))).1 (unk_s (hF i (by omega))).2.1)
    refine aw_iload_n dX5_doubleSum_4 0 rfl ?_
    refine aw_aload_n dX5_doubleSum_5 2 rfl ?_
    refine aw_getI dX5_doubleSum_6 fl_X5_104 hR.1 hR.n0 ?_
    refine aw_topE hz ?_
    refine aw_icmp_geN i z 41 dX5_doubleSum_9 (by decide) rfl rfl (by omega) (by omega) (fun c1 => absurd c1 (by omega)) (fun c1 => ?_)
    refine aw_dload_n dX5_doubleSum_12 1 rfl ?_
    refine aw_bipush (v := 7) dX5_doubleSum_13 (by decide) ?_
    refine aw_aload_n dX5_doubleSum_15 2 rfl ?_
    refine aw_getI dX5_doubleSum_16 fl_X5_98 hR.1 hR.n0 ?_
    refine aw_topE hk ?_
    refine aw_bipush (v := 7) dX5_doubleSum_19 (by decide) ?_
    refine aw_aload_n dX5_doubleSum_21 2 rfl ?_
    refine aw_getR (b := a + 2) dX5_doubleSum_22 fl_X5_142 rfl hR.1 hR.n0 hR.2.2.2.2.1 ?_
    refine aw_iload_n dX5_doubleSum_25 0 rfl ?_
    refine aw_laldN i dX5_doubleSum_26 hR.2.2.1 hR.n2 rfl (by omega) (by first | decide | omega) ?_
    refine aw_toplE (hV i (by omega)) ?_
    refine aw_callSl [.int (nI b), .int 7, .long (V i)] [.int 7, .double x] (sp_X0_widened (d := d - 1) (by omega) b 7 hb (by decide) (V i) (h6 i (by omega))) dX5_doubleSum_27 ml_X5_146 sm_X0_widened rfl (dl1 (d := d) (by omega)) rfl rfl (Nat.le_of_ble_eq_true rfl) rfl rfl (Nat.zero_le _) (Nat.zero_le _) ?_
    refine aw_toplE (unk_s (hF i (by omega))).2.2 ?_
    refine aw_callSd [.int 7, .long (fb 7 (unk 7 (wid b 7 (V i))))] [.double x] (sp_X0_real (d := d - 1) (by omega) 7 (by decide) _ (unk_s (hF i (by omega))).1) dX5_doubleSum_30 ml_X5_326 sm_X0_real rfl (dl1 (d := d) (by omega)) rfl rfl (Nat.le_of_ble_eq_true rfl) rfl rfl (Nat.zero_le _) (Nat.zero_le _) ?_
    refine aw_dadd dX5_doubleSum_33 g.2 ?_
    refine aw_dstore_n [(1, .double (FP.dadd x (unk 7 (wid b 7 (V i))))), (3, .int (nI i)), (0, .ref a)] dX5_doubleSum_34 (Nat.le_of_ble_eq_true rfl) rfl ?_
    refine aw_iincN i 1 [(3, .int (nI (i + 1))), (1, .double (FP.dadd x (unk 7 (wid b 7 (V i))))), (0, .ref a)] dX5_doubleSum_35 1 rfl rfl rfl (Nat.le_of_ble_eq_true rfl) rfl ?_
    refine aw_goto 4 dX5_doubleSum_38 (by decide) ?_
    exact ih (i + 1) _ (by omega) g.1
theorem sp_fs7 {d : Nat} (hd : 5 ≤ d) {M : xM} {a z b : Nat} {V : Nat → Int64} (hR : RowAt M a) (hz : mI M a 1 = nI z) (hz2 : z ≤ 12) (hk : mI M a 0 = nI b) (hb : b < 8) (hV : ∀ k, k < z → mL M (a + 2) k = V k) (h6 : ∀ k, k < z → b = 6 → okF 6 (V k)) (hF : ∀ k, k < z → okF 7 (wid b 7 (V k))) : Sp (fX5_doubleSum d) [.ref a] M (dt (some (.long (fb 7 ((dS (D7 b V) z 0 FP.dconst0))))) M) := by
  refine Sp.of pn_X5 (Nat.le_of_ble_eq_true rfl) (fun h => Bool.noConfusion h) ?_
  refine aw_dconst0 dX5_doubleSum_0 ?_
  refine aw_dstore_n [(1, .double FP.dconst0), (0, .ref a)] dX5_doubleSum_1 (Nat.le_of_ble_eq_true rfl) rfl ?_
  refine aw_iconst (v := 0) dX5_doubleSum_2 (by decide) ?_
  refine aw_istore_n [(3, .int 0), (1, .double FP.dconst0), (0, .ref a)] dX5_doubleSum_3 (Nat.le_of_ble_eq_true rfl) rfl ?_
  exact lp_fs7 hd hR hz hz2 hk hb hV h6 hF z 0 _ (by omega) M8_d0
theorem lp_ad4 {d : Nat} (hd : 3 ≤ d) {M : xM} {t z b : Nat} {V : Nat → Int64} (hT : TR M) (ht : t < 12) (hz : mI M 2 t = nI z) (hz2 : z ≤ 12) (hk : mI M 1 t = nI b) (hb : b < 8) (hV : ∀ k, k < z → mL M 5 (12 * t + k) = V k) (h6 : ∀ k, k < z → b = 6 → okF 6 (V k)) : ∀ (n i : Nat) (w : Int64) (lv9 : List (Nat × Value)), i + n = z → AW (fX6_added d) 11 ([(8, .int (nI i)), (6, .double FP.dconst0), (5, .float FP.fconst0), (3, .long w.toInt32.toInt64), (0, .ref 0), (1, .int (nI t)), (2, .int (nI 4))] ++ lv9) [] M 0 0 (dt (some (.long ((wS V n i w).toInt32.toInt64))) M) := by
  intro n
  induction n with
  | zero =>
    intro i w lv9 hi
    obtain rfl : i = z := by omega
    refine aw_sub [0, 1, 2, 3, 4, 5, 6] rfl ?_
    refine aw_iload dX6_added_11 0 rfl ?_
    refine aw_aload_n dX6_added_13 4 rfl ?_
    refine aw_getR (b := 2) dX6_added_14 fl_X6_13 rfl (hT.s 0 (by decide)) (hT.n 0 (by decide)) (hT.r 1) ?_
    refine aw_iload_n dX6_added_17 5 rfl ?_
    refine aw_ialdN t dX6_added_18 (hT.s 2 (by decide)) (hT.n 2 (by decide)) rfl (by omega) (by first | decide | omega) ?_
    refine aw_topE hz ?_
    refine aw_icmp_geN i i 114 dX6_added_19 (by decide) rfl rfl (by omega) (by omega) (fun c1 => ?_) (fun c1 => absurd (by omega) c1)
    refine aw_iload_n dX6_added_114 6 rfl ?_
    refine aw_bipush (v := 6) dX6_added_115 (by decide) ?_
    refine aw_icmp_geN 4 6 124 dX6_added_117 (by decide) rfl rfl (by omega) (by omega) (fun c2 => absurd c2 (by decide)) (fun c2 => ?_)
    refine aw_lload_n dX6_added_120 3 rfl ?_
    refine aw_goto 144 dX6_added_121 (by decide) ?_
    refine aw_lret dX6_added_144 rfl (Nat.zero_le _) (Nat.zero_le _) ?_
    exact ⟨rfl, rfl⟩
  | succ n ih =>
    intro i w lv9 hi
    refine aw_sub [0, 1, 2, 3, 4, 5, 6] rfl ?_
    refine aw_iload dX6_added_11 0 rfl ?_
    refine aw_aload_n dX6_added_13 4 rfl ?_
    refine aw_getR (b := 2) dX6_added_14 fl_X6_13 rfl (hT.s 0 (by decide)) (hT.n 0 (by decide)) (hT.r 1) ?_
    refine aw_iload_n dX6_added_17 5 rfl ?_
    refine aw_ialdN t dX6_added_18 (hT.s 2 (by decide)) (hT.n 2 (by decide)) rfl (by omega) (by first | decide | omega) ?_
    refine aw_topE hz ?_
    refine aw_icmp_geN i z 114 dX6_added_19 (by decide) rfl rfl (by omega) (by omega) (fun c1 => absurd c1 (by omega)) (fun c1 => ?_)
    refine aw_aload_n dX6_added_22 4 rfl ?_
    refine aw_getR (b := 1) dX6_added_23 fl_X6_7 rfl (hT.s 0 (by decide)) (hT.n 0 (by decide)) (hT.r 0) ?_
    refine aw_iload_n dX6_added_26 5 rfl ?_
    refine aw_ialdN t dX6_added_27 (hT.s 1 (by decide)) (hT.n 1 (by decide)) rfl (by omega) (by first | decide | omega) ?_
    refine aw_topE hk ?_
    refine aw_aload_n dX6_added_28 4 rfl ?_
    refine aw_getR (b := 5) dX6_added_29 fl_X6_23 rfl (hT.s 0 (by decide)) (hT.n 0 (by decide)) (hT.r 4) ?_
    refine aw_bipush (v := 12) dX6_added_32 (by decide) ?_
    refine aw_iload_n dX6_added_34 5 rfl ?_
    refine aw_imulN 12 t dX6_added_35 rfl rfl ?_
    refine aw_iload dX6_added_36 0 rfl ?_
    refine aw_iaddN (12 * t) i dX6_added_38 rfl rfl ?_
    refine aw_laldN ((12 * t) + i) dX6_added_39 (hT.s 5 (by decide)) (hT.n 5 (by decide)) rfl (by omega) (by first | decide | omega) ?_
    refine aw_toplE (hV i (by omega)) ?_
    refine aw_iload_n dX6_added_40 6 rfl ?_
    refine aw_callSl [.int (nI b), .long (V i), .int (nI 4)] [] (sp_X6_turned (d := d - 1) (by omega) b 4 hb (by decide) (V i) (h6 i (by omega))) dX6_added_41 ml_X6_132 sm_X6_turned rfl (dl1 (d := d) (by omega)) rfl rfl (Nat.le_of_ble_eq_true rfl) rfl rfl (Nat.zero_le _) (Nat.zero_le _) ?_
    refine aw_toplE (wid_le (by decide) (V i)) ?_
    refine aw_lstore [(9, .long (V i)), (8, .int (nI i)), (6, .double FP.dconst0), (5, .float FP.fconst0), (3, .long w.toInt32.toInt64), (0, .ref 0), (1, .int (nI t)), (2, .int (nI 4))] dX6_added_44 (Nat.le_of_ble_eq_true rfl) rfl ?_
    refine aw_iload_n dX6_added_46 7 rfl ?_
    refine aw_iconst (v := 4) dX6_added_47 (by decide) ?_
    refine aw_icmp_neN 4 4 61 dX6_added_48 (by decide) rfl rfl (by omega) (by omega) (fun c2 => absurd rfl c2) (fun c2 => ?_)
    refine aw_lload_n dX6_added_51 4 rfl ?_
    refine aw_lload dX6_added_52 0 rfl ?_
    refine aw_ladd dX6_added_54 ?_
    refine aw_l2i dX6_added_55 ?_
    refine aw_i2l dX6_added_56 ?_
    refine aw_lstore_n [(3, .long (Int32.toInt64 (Int64.toInt32 (w.toInt32.toInt64 + (V i))))), (9, .long (V i)), (8, .int (nI i)), (6, .double FP.dconst0), (5, .float FP.fconst0), (0, .ref 0), (1, .int (nI t)), (2, .int (nI 4))] dX6_added_57 (Nat.le_of_ble_eq_true rfl) rfl ?_
    refine aw_goto 108 dX6_added_58 (by decide) ?_
    refine aw_iincN i 1 [(8, .int (nI (i + 1))), (3, .long (Int32.toInt64 (Int64.toInt32 (w.toInt32.toInt64 + (V i))))), (9, .long (V i)), (6, .double FP.dconst0), (5, .float FP.fconst0), (0, .ref 0), (1, .int (nI t)), (2, .int (nI 4))] dX6_added_108 2 rfl rfl rfl (Nat.le_of_ble_eq_true rfl) rfl ?_
    refine aw_goto 11 dX6_added_111 (by decide) ?_
    refine aw_sub [0, 3, 4, 1, 5, 6, 7, 2] rfl ?_
    rw [i32_add]
    exact ih (i + 1) _ [(9, .long (V i))] (by omega)
theorem sp_ad4 {d : Nat} (hd : 3 ≤ d) {M : xM} {t z b : Nat} {V : Nat → Int64} (hT : TR M) (ht : t < 12) (hz : mI M 2 t = nI z) (hz2 : z ≤ 12) (hk : mI M 1 t = nI b) (hb : b < 8) (hV : ∀ k, k < z → mL M 5 (12 * t + k) = V k) (h6 : ∀ k, k < z → b = 6 → okF 6 (V k)) : Sp (fX6_added d) [.ref 0, .int (nI t), .int (nI 4)] M (dt (some (.long ((wS V z 0 0).toInt32.toInt64))) M) := by
  refine Sp.of pn_X6 (Nat.le_of_ble_eq_true rfl) (fun h => Bool.noConfusion h) ?_
  refine aw_lconst (v := 0) dX6_added_0 (by decide) ?_
  refine aw_lstore_n [(3, .long 0), (0, .ref 0), (1, .int (nI t)), (2, .int (nI 4))] dX6_added_1 (Nat.le_of_ble_eq_true rfl) rfl ?_
  refine aw_fconst0 dX6_added_2 ?_
  refine aw_fstore [(5, .float FP.fconst0), (3, .long 0), (0, .ref 0), (1, .int (nI t)), (2, .int (nI 4))] dX6_added_3 (Nat.le_of_ble_eq_true rfl) rfl ?_
  refine aw_dconst0 dX6_added_5 ?_
  refine aw_dstore [(6, .double FP.dconst0), (5, .float FP.fconst0), (3, .long 0), (0, .ref 0), (1, .int (nI t)), (2, .int (nI 4))] dX6_added_6 (Nat.le_of_ble_eq_true rfl) rfl ?_
  refine aw_iconst (v := 0) dX6_added_8 (by decide) ?_
  refine aw_istore [(8, .int 0), (6, .double FP.dconst0), (5, .float FP.fconst0), (3, .long 0), (0, .ref 0), (1, .int (nI t)), (2, .int (nI 4))] dX6_added_9 (Nat.le_of_ble_eq_true rfl) rfl ?_
  exact lp_ad4 hd hT ht hz hz2 hk hb hV h6 z 0 0 [] (by omega)
theorem lp_ad5 {d : Nat} (hd : 3 ≤ d) {M : xM} {t z b : Nat} {V : Nat → Int64} (hT : TR M) (ht : t < 12) (hz : mI M 2 t = nI z) (hz2 : z ≤ 12) (hk : mI M 1 t = nI b) (hb : b < 8) (hV : ∀ k, k < z → mL M 5 (12 * t + k) = V k) (h6 : ∀ k, k < z → b = 6 → okF 6 (V k)) : ∀ (n i : Nat) (w : Int64) (lv9 : List (Nat × Value)), i + n = z → AW (fX6_added d) 11 ([(8, .int (nI i)), (6, .double FP.dconst0), (5, .float FP.fconst0), (3, .long w), (0, .ref 0), (1, .int (nI t)), (2, .int (nI 5))] ++ lv9) [] M 0 0 (dt (some (.long (wS V n i w))) M) := by
  intro n
  induction n with
  | zero =>
    intro i w lv9 hi
    obtain rfl : i = z := by omega
    refine aw_sub [0, 1, 2, 3, 4, 5, 6] rfl ?_
    refine aw_iload dX6_added_11 0 rfl ?_
    refine aw_aload_n dX6_added_13 4 rfl ?_
    refine aw_getR (b := 2) dX6_added_14 fl_X6_13 rfl (hT.s 0 (by decide)) (hT.n 0 (by decide)) (hT.r 1) ?_
    refine aw_iload_n dX6_added_17 5 rfl ?_
    refine aw_ialdN t dX6_added_18 (hT.s 2 (by decide)) (hT.n 2 (by decide)) rfl (by omega) (by first | decide | omega) ?_
    refine aw_topE hz ?_
    refine aw_icmp_geN i i 114 dX6_added_19 (by decide) rfl rfl (by omega) (by omega) (fun c1 => ?_) (fun c1 => absurd (by omega) c1)
    refine aw_iload_n dX6_added_114 6 rfl ?_
    refine aw_bipush (v := 6) dX6_added_115 (by decide) ?_
    refine aw_icmp_geN 5 6 124 dX6_added_117 (by decide) rfl rfl (by omega) (by omega) (fun c2 => absurd c2 (by decide)) (fun c2 => ?_)
    refine aw_lload_n dX6_added_120 3 rfl ?_
    refine aw_goto 144 dX6_added_121 (by decide) ?_
    refine aw_lret dX6_added_144 rfl (Nat.zero_le _) (Nat.zero_le _) ?_
    exact ⟨rfl, rfl⟩
  | succ n ih =>
    intro i w lv9 hi
    refine aw_sub [0, 1, 2, 3, 4, 5, 6] rfl ?_
    refine aw_iload dX6_added_11 0 rfl ?_
    refine aw_aload_n dX6_added_13 4 rfl ?_
    refine aw_getR (b := 2) dX6_added_14 fl_X6_13 rfl (hT.s 0 (by decide)) (hT.n 0 (by decide)) (hT.r 1) ?_
    refine aw_iload_n dX6_added_17 5 rfl ?_
    refine aw_ialdN t dX6_added_18 (hT.s 2 (by decide)) (hT.n 2 (by decide)) rfl (by omega) (by first | decide | omega) ?_
    refine aw_topE hz ?_
    refine aw_icmp_geN i z 114 dX6_added_19 (by decide) rfl rfl (by omega) (by omega) (fun c1 => absurd c1 (by omega)) (fun c1 => ?_)
    refine aw_aload_n dX6_added_22 4 rfl ?_
    refine aw_getR (b := 1) dX6_added_23 fl_X6_7 rfl (hT.s 0 (by decide)) (hT.n 0 (by decide)) (hT.r 0) ?_
    refine aw_iload_n dX6_added_26 5 rfl ?_
    refine aw_ialdN t dX6_added_27 (hT.s 1 (by decide)) (hT.n 1 (by decide)) rfl (by omega) (by first | decide | omega) ?_
    refine aw_topE hk ?_
    refine aw_aload_n dX6_added_28 4 rfl ?_
    refine aw_getR (b := 5) dX6_added_29 fl_X6_23 rfl (hT.s 0 (by decide)) (hT.n 0 (by decide)) (hT.r 4) ?_
    refine aw_bipush (v := 12) dX6_added_32 (by decide) ?_
    refine aw_iload_n dX6_added_34 5 rfl ?_
    refine aw_imulN 12 t dX6_added_35 rfl rfl ?_
    refine aw_iload dX6_added_36 0 rfl ?_
    refine aw_iaddN (12 * t) i dX6_added_38 rfl rfl ?_
    refine aw_laldN ((12 * t) + i) dX6_added_39 (hT.s 5 (by decide)) (hT.n 5 (by decide)) rfl (by omega) (by first | decide | omega) ?_
    refine aw_toplE (hV i (by omega)) ?_
    refine aw_iload_n dX6_added_40 6 rfl ?_
    refine aw_callSl [.int (nI b), .long (V i), .int (nI 5)] [] (sp_X6_turned (d := d - 1) (by omega) b 5 hb (by decide) (V i) (h6 i (by omega))) dX6_added_41 ml_X6_132 sm_X6_turned rfl (dl1 (d := d) (by omega)) rfl rfl (Nat.le_of_ble_eq_true rfl) rfl rfl (Nat.zero_le _) (Nat.zero_le _) ?_
    refine aw_toplE (wid_le (by decide) (V i)) ?_
    refine aw_lstore [(9, .long (V i)), (8, .int (nI i)), (6, .double FP.dconst0), (5, .float FP.fconst0), (3, .long w), (0, .ref 0), (1, .int (nI t)), (2, .int (nI 5))] dX6_added_44 (Nat.le_of_ble_eq_true rfl) rfl ?_
    refine aw_iload_n dX6_added_46 7 rfl ?_
    refine aw_iconst (v := 4) dX6_added_47 (by decide) ?_
    refine aw_icmp_neN 5 4 61 dX6_added_48 (by decide) rfl rfl (by omega) (by omega) (fun c2 => ?_) (fun c2 => absurd c2 (by decide))
    refine aw_iload_n dX6_added_61 7 rfl ?_
    refine aw_iconst (v := 5) dX6_added_62 (by decide) ?_
    refine aw_icmp_neN 5 5 74 dX6_added_63 (by decide) rfl rfl (by omega) (by omega) (fun c3 => absurd rfl c3) (fun c3 => ?_)
    refine aw_lload_n dX6_added_66 4 rfl ?_
    refine aw_lload dX6_added_67 0 rfl ?_
    refine aw_ladd dX6_added_69 ?_
    refine aw_lstore_n [(3, .long (w + (V i))), (9, .long (V i)), (8, .int (nI i)), (6, .double FP.dconst0), (5, .float FP.fconst0), (0, .ref 0), (1, .int (nI t)), (2, .int (nI 5))] dX6_added_70 (Nat.le_of_ble_eq_true rfl) rfl ?_
    refine aw_goto 108 dX6_added_71 (by decide) ?_
    refine aw_iincN i 1 [(8, .int (nI (i + 1))), (3, .long (w + (V i))), (9, .long (V i)), (6, .double FP.dconst0), (5, .float FP.fconst0), (0, .ref 0), (1, .int (nI t)), (2, .int (nI 5))] dX6_added_108 2 rfl rfl rfl (Nat.le_of_ble_eq_true rfl) rfl ?_
    refine aw_goto 11 dX6_added_111 (by decide) ?_
    refine aw_sub [0, 3, 4, 1, 5, 6, 7, 2] rfl ?_
    exact ih (i + 1) _ [(9, .long (V i))] (by omega)
theorem sp_ad5 {d : Nat} (hd : 3 ≤ d) {M : xM} {t z b : Nat} {V : Nat → Int64} (hT : TR M) (ht : t < 12) (hz : mI M 2 t = nI z) (hz2 : z ≤ 12) (hk : mI M 1 t = nI b) (hb : b < 8) (hV : ∀ k, k < z → mL M 5 (12 * t + k) = V k) (h6 : ∀ k, k < z → b = 6 → okF 6 (V k)) : Sp (fX6_added d) [.ref 0, .int (nI t), .int (nI 5)] M (dt (some (.long (wS V z 0 0))) M) := by
  refine Sp.of pn_X6 (Nat.le_of_ble_eq_true rfl) (fun h => Bool.noConfusion h) ?_
  refine aw_lconst (v := 0) dX6_added_0 (by decide) ?_
  refine aw_lstore_n [(3, .long 0), (0, .ref 0), (1, .int (nI t)), (2, .int (nI 5))] dX6_added_1 (Nat.le_of_ble_eq_true rfl) rfl ?_
  refine aw_fconst0 dX6_added_2 ?_
  refine aw_fstore [(5, .float FP.fconst0), (3, .long 0), (0, .ref 0), (1, .int (nI t)), (2, .int (nI 5))] dX6_added_3 (Nat.le_of_ble_eq_true rfl) rfl ?_
  refine aw_dconst0 dX6_added_5 ?_
  refine aw_dstore [(6, .double FP.dconst0), (5, .float FP.fconst0), (3, .long 0), (0, .ref 0), (1, .int (nI t)), (2, .int (nI 5))] dX6_added_6 (Nat.le_of_ble_eq_true rfl) rfl ?_
  refine aw_iconst (v := 0) dX6_added_8 (by decide) ?_
  refine aw_istore [(8, .int 0), (6, .double FP.dconst0), (5, .float FP.fconst0), (3, .long 0), (0, .ref 0), (1, .int (nI t)), (2, .int (nI 5))] dX6_added_9 (Nat.le_of_ble_eq_true rfl) rfl ?_
  exact lp_ad5 hd hT ht hz hz2 hk hb hV h6 z 0 0 [] (by omega)
theorem lp_ad6 {d : Nat} (hd : 3 ≤ d) {M : xM} {t z b : Nat} {V : Nat → Int64} (hT : TR M) (ht : t < 12) (hz : mI M 2 t = nI z) (hz2 : z ≤ 12) (hk : mI M 1 t = nI b) (hb : b < 8) (hV : ∀ k, k < z → mL M 5 (12 * t + k) = V k) (h6 : ∀ k, k < z → b = 6 → okF 6 (V k)) (hF : ∀ k, k < z → okF 6 (wid b 6 (V k))) : ∀ (n i : Nat) (x : UInt32) (lv9 : List (Nat × Value)), i + n = z → M8 FP.Core.b32 (67 + 2 * i) (FP.Core.val32 x) → AW (fX6_added d) 11 ([(8, .int (nI i)), (6, .double FP.dconst0), (5, .float x), (3, .long 0), (0, .ref 0), (1, .int (nI t)), (2, .int (nI 6))] ++ lv9) [] M 0 0 (dt (some (.long (fb 6 (FP.f2d (fS (D6 b V) n i x))))) M) := by
  intro n
  induction n with
  | zero =>
    intro i x lv9 hi hx
    obtain rfl : i = z := by omega
    refine aw_sub [0, 1, 2, 3, 4, 5, 6] rfl ?_
    have hD : isD 6 (FP.f2d x) := (M8_32 (by omega) hx).1
    refine aw_iload dX6_added_11 0 rfl ?_
    refine aw_aload_n dX6_added_13 4 rfl ?_
    refine aw_getR (b := 2) dX6_added_14 fl_X6_13 rfl (hT.s 0 (by decide)) (hT.n 0 (by decide)) (hT.r 1) ?_
    refine aw_iload_n dX6_added_17 5 rfl ?_
    refine aw_ialdN t dX6_added_18 (hT.s 2 (by decide)) (hT.n 2 (by decide)) rfl (by omega) (by first | decide | omega) ?_
    refine aw_topE hz ?_
    refine aw_icmp_geN i i 114 dX6_added_19 (by decide) rfl rfl (by omega) (by omega) (fun c1 => ?_) (fun c1 => absurd (by omega) c1)
    refine aw_iload_n dX6_added_114 6 rfl ?_
    refine aw_bipush (v := 6) dX6_added_115 (by decide) ?_
    refine aw_icmp_geN 6 6 124 dX6_added_117 (by decide) rfl rfl (by omega) (by omega) (fun c2 => ?_) (fun c2 => absurd (by decide) c2)
    refine aw_iload_n dX6_added_124 6 rfl ?_
    refine aw_bipush (v := 6) dX6_added_125 (by decide) ?_
    refine aw_icmp_neN 6 6 139 dX6_added_127 (by decide) rfl rfl (by omega) (by omega) (fun c3 => absurd rfl c3) (fun c3 => ?_)
    refine aw_fload dX6_added_130 2 rfl ?_
    refine aw_f2d dX6_added_132 (M8_32 (by omega) hx).2.2 ?_
    refine aw_callSl [.double (FP.f2d x)] [] (sp_X6_floatBits (d := d - 1) (by omega) _ hD) dX6_added_133 ml_X6_106 sm_X6_floatBits rfl (dl1 (d := d) (by omega)) rfl rfl (Nat.le_of_ble_eq_true rfl) rfl rfl (Nat.zero_le _) (Nat.zero_le _) ?_
    refine aw_goto 144 dX6_added_136 (by decide) ?_
    refine aw_lret dX6_added_144 rfl (Nat.zero_le _) (Nat.zero_le _) ?_
    exact ⟨rfl, rfl⟩
  | succ n ih =>
    intro i x lv9 hi hx
    refine aw_sub [0, 1, 2, 3, 4, 5, 6] rfl ?_
    have g := fadd_M8 (show i ≤ 11 by omega) hx (el6 (unk_s (hF i (by omega))).1 (unk_s (hF i (by omega))).2.1).1
    refine aw_iload dX6_added_11 0 rfl ?_
    refine aw_aload_n dX6_added_13 4 rfl ?_
    refine aw_getR (b := 2) dX6_added_14 fl_X6_13 rfl (hT.s 0 (by decide)) (hT.n 0 (by decide)) (hT.r 1) ?_
    refine aw_iload_n dX6_added_17 5 rfl ?_
    refine aw_ialdN t dX6_added_18 (hT.s 2 (by decide)) (hT.n 2 (by decide)) rfl (by omega) (by first | decide | omega) ?_
    refine aw_topE hz ?_
    refine aw_icmp_geN i z 114 dX6_added_19 (by decide) rfl rfl (by omega) (by omega) (fun c1 => absurd c1 (by omega)) (fun c1 => ?_)
    refine aw_aload_n dX6_added_22 4 rfl ?_
    refine aw_getR (b := 1) dX6_added_23 fl_X6_7 rfl (hT.s 0 (by decide)) (hT.n 0 (by decide)) (hT.r 0) ?_
    refine aw_iload_n dX6_added_26 5 rfl ?_
    refine aw_ialdN t dX6_added_27 (hT.s 1 (by decide)) (hT.n 1 (by decide)) rfl (by omega) (by first | decide | omega) ?_
    refine aw_topE hk ?_
    refine aw_aload_n dX6_added_28 4 rfl ?_
    refine aw_getR (b := 5) dX6_added_29 fl_X6_23 rfl (hT.s 0 (by decide)) (hT.n 0 (by decide)) (hT.r 4) ?_
    refine aw_bipush (v := 12) dX6_added_32 (by decide) ?_
    refine aw_iload_n dX6_added_34 5 rfl ?_
    refine aw_imulN 12 t dX6_added_35 rfl rfl ?_
    refine aw_iload dX6_added_36 0 rfl ?_
    refine aw_iaddN (12 * t) i dX6_added_38 rfl rfl ?_
    refine aw_laldN ((12 * t) + i) dX6_added_39 (hT.s 5 (by decide)) (hT.n 5 (by decide)) rfl (by omega) (by first | decide | omega) ?_
    refine aw_toplE (hV i (by omega)) ?_
    refine aw_iload_n dX6_added_40 6 rfl ?_
    refine aw_callSl [.int (nI b), .long (V i), .int (nI 6)] [] (sp_X6_turned (d := d - 1) (by omega) b 6 hb (by decide) (V i) (h6 i (by omega))) dX6_added_41 ml_X6_132 sm_X6_turned rfl (dl1 (d := d) (by omega)) rfl rfl (Nat.le_of_ble_eq_true rfl) rfl rfl (Nat.zero_le _) (Nat.zero_le _) ?_
    refine aw_toplE (unk_s (hF i (by omega))).2.2 ?_
    refine aw_lstore [(9, .long (fb 6 (unk 6 (wid b 6 (V i))))), (8, .int (nI i)), (6, .double FP.dconst0), (5, .float x), (3, .long 0), (0, .ref 0), (1, .int (nI t)), (2, .int (nI 6))] dX6_added_44 (Nat.le_of_ble_eq_true rfl) rfl ?_
    refine aw_iload_n dX6_added_46 7 rfl ?_
    refine aw_iconst (v := 4) dX6_added_47 (by decide) ?_
    refine aw_icmp_neN 6 4 61 dX6_added_48 (by decide) rfl rfl (by omega) (by omega) (fun c2 => ?_) (fun c2 => absurd c2 (by decide))
    refine aw_iload_n dX6_added_61 7 rfl ?_
    refine aw_iconst (v := 5) dX6_added_62 (by decide) ?_
    refine aw_icmp_neN 6 5 74 dX6_added_63 (by decide) rfl rfl (by omega) (by omega) (fun c3 => ?_) (fun c3 => absurd c3 (by decide))
    refine aw_iload_n dX6_added_74 7 rfl ?_
    refine aw_bipush (v := 6) dX6_added_75 (by decide) ?_
    refine aw_icmp_neN 6 6 96 dX6_added_77 (by decide) rfl rfl (by omega) (by omega) (fun c4 => absurd rfl c4) (fun c4 => ?_)
    refine aw_fload dX6_added_80 3 rfl ?_
    refine aw_bipush (v := 6) dX6_added_82 (by decide) ?_
    refine aw_lload dX6_added_84 0 rfl ?_
    refine aw_callSd [.int 6, .long (fb 6 (unk 6 (wid b 6 (V i))))] [.float x] (sp_X6_value (d := d - 1) (by omega) 6 (by decide) _ (unk_s (hF i (by omega))).1) dX6_added_86 ml_X6_115 sm_X6_value rfl (dl1 (d := d) (by omega)) rfl rfl (Nat.le_of_ble_eq_true rfl) rfl rfl (Nat.zero_le _) (Nat.zero_le _) ?_
    refine aw_d2f dX6_added_89 (el6 (unk_s (hF i (by omega))).1 (unk_s (hF i (by omega))).2.1).2 ?_
    refine aw_fadd dX6_added_90 g.2 ?_
    refine aw_fstore [(5, .float (FP.fadd x (FP.d2f (unk 6 (wid b 6 (V i)))))), (9, .long (fb 6 (unk 6 (wid b 6 (V i))))), (8, .int (nI i)), (6, .double FP.dconst0), (3, .long 0), (0, .ref 0), (1, .int (nI t)), (2, .int (nI 6))] dX6_added_91 (Nat.le_of_ble_eq_true rfl) rfl ?_
    refine aw_goto 108 dX6_added_93 (by decide) ?_
    refine aw_iincN i 1 [(8, .int (nI (i + 1))), (5, .float (FP.fadd x (FP.d2f (unk 6 (wid b 6 (V i)))))), (9, .long (fb 6 (unk 6 (wid b 6 (V i))))), (6, .double FP.dconst0), (3, .long 0), (0, .ref 0), (1, .int (nI t)), (2, .int (nI 6))] dX6_added_108 2 rfl rfl rfl (Nat.le_of_ble_eq_true rfl) rfl ?_
    refine aw_goto 11 dX6_added_111 (by decide) ?_
    refine aw_sub [0, 3, 1, 4, 5, 6, 7, 2] rfl ?_
    exact ih (i + 1) _ [(9, .long (fb 6 (unk 6 (wid b 6 (V i)))))] (by omega) g.1
theorem sp_ad6 {d : Nat} (hd : 3 ≤ d) {M : xM} {t z b : Nat} {V : Nat → Int64} (hT : TR M) (ht : t < 12) (hz : mI M 2 t = nI z) (hz2 : z ≤ 12) (hk : mI M 1 t = nI b) (hb : b < 8) (hV : ∀ k, k < z → mL M 5 (12 * t + k) = V k) (h6 : ∀ k, k < z → b = 6 → okF 6 (V k)) (hF : ∀ k, k < z → okF 6 (wid b 6 (V k))) : Sp (fX6_added d) [.ref 0, .int (nI t), .int (nI 6)] M (dt (some (.long (fb 6 (FP.f2d (fS (D6 b V) z 0 FP.fconst0))))) M) := by
  refine Sp.of pn_X6 (Nat.le_of_ble_eq_true rfl) (fun h => Bool.noConfusion h) ?_
  refine aw_lconst (v := 0) dX6_added_0 (by decide) ?_
  refine aw_lstore_n [(3, .long 0), (0, .ref 0), (1, .int (nI t)), (2, .int (nI 6))] dX6_added_1 (Nat.le_of_ble_eq_true rfl) rfl ?_
  refine aw_fconst0 dX6_added_2 ?_
  refine aw_fstore [(5, .float FP.fconst0), (3, .long 0), (0, .ref 0), (1, .int (nI t)), (2, .int (nI 6))] dX6_added_3 (Nat.le_of_ble_eq_true rfl) rfl ?_
  refine aw_dconst0 dX6_added_5 ?_
  refine aw_dstore [(6, .double FP.dconst0), (5, .float FP.fconst0), (3, .long 0), (0, .ref 0), (1, .int (nI t)), (2, .int (nI 6))] dX6_added_6 (Nat.le_of_ble_eq_true rfl) rfl ?_
  refine aw_iconst (v := 0) dX6_added_8 (by decide) ?_
  refine aw_istore [(8, .int 0), (6, .double FP.dconst0), (5, .float FP.fconst0), (3, .long 0), (0, .ref 0), (1, .int (nI t)), (2, .int (nI 6))] dX6_added_9 (Nat.le_of_ble_eq_true rfl) rfl ?_
  exact lp_ad6 hd hT ht hz hz2 hk hb hV h6 hF z 0 _ [] (by omega) M8_f0
theorem lp_ad7 {d : Nat} (hd : 3 ≤ d) {M : xM} {t z b : Nat} {V : Nat → Int64} (hT : TR M) (ht : t < 12) (hz : mI M 2 t = nI z) (hz2 : z ≤ 12) (hk : mI M 1 t = nI b) (hb : b < 8) (hV : ∀ k, k < z → mL M 5 (12 * t + k) = V k) (h6 : ∀ k, k < z → b = 6 → okF 6 (V k)) (hF : ∀ k, k < z → okF 7 (wid b 7 (V k))) : ∀ (n i : Nat) (x : UInt64) (lv9 : List (Nat × Value)), i + n = z → M8 FP.Core.b64 (67 + 2 * i) (FP.Core.val64 x) → AW (fX6_added d) 11 ([(8, .int (nI i)), (6, .double x), (5, .float FP.fconst0), (3, .long 0), (0, .ref 0), (1, .int (nI t)), (2, .int (nI 7))] ++ lv9) [] M 0 0 (dt (some (.long (fb 7 (dS (D7 b V) n i x)))) M) := by
  intro n
  induction n with
  | zero =>
    intro i x lv9 hi hx
    obtain rfl : i = z := by omega
    refine aw_sub [0, 1, 2, 3, 4, 5, 6] rfl ?_
    have hD : isD 7 x := (M8_64 (by omega) hx).1
    refine aw_iload dX6_added_11 0 rfl ?_
    refine aw_aload_n dX6_added_13 4 rfl ?_
    refine aw_getR (b := 2) dX6_added_14 fl_X6_13 rfl (hT.s 0 (by decide)) (hT.n 0 (by decide)) (hT.r 1) ?_
    refine aw_iload_n dX6_added_17 5 rfl ?_
    refine aw_ialdN t dX6_added_18 (hT.s 2 (by decide)) (hT.n 2 (by decide)) rfl (by omega) (by first | decide | omega) ?_
    refine aw_topE hz ?_
    refine aw_icmp_geN i i 114 dX6_added_19 (by decide) rfl rfl (by omega) (by omega) (fun c1 => ?_) (fun c1 => absurd (by omega) c1)
    refine aw_iload_n dX6_added_114 6 rfl ?_
    refine aw_bipush (v := 6) dX6_added_115 (by decide) ?_
    refine aw_icmp_geN 7 6 124 dX6_added_117 (by decide) rfl rfl (by omega) (by omega) (fun c2 => ?_) (fun c2 => absurd (by decide) c2)
    refine aw_iload_n dX6_added_124 6 rfl ?_
    refine aw_bipush (v := 6) dX6_added_125 (by decide) ?_
    refine aw_icmp_neN 7 6 139 dX6_added_127 (by decide) rfl rfl (by omega) (by omega) (fun c3 => ?_) (fun c3 => absurd c3 (by decide))
    refine aw_dload dX6_added_139 1 rfl ?_
    refine aw_callSl [.double x] [] (sp_X6_doubleBits (d := d - 1) (by omega) _ hD) dX6_added_141 ml_X6_112 sm_X6_doubleBits rfl (dl1 (d := d) (by omega)) rfl rfl (Nat.le_of_ble_eq_true rfl) rfl rfl (Nat.zero_le _) (Nat.zero_le _) ?_
    refine aw_lret dX6_added_144 rfl (Nat.zero_le _) (Nat.zero_le _) ?_
    exact ⟨rfl, rfl⟩
  | succ n ih =>
    intro i x lv9 hi hx
    refine aw_sub [0, 1, 2, 3, 4, 5, 6] rfl ?_
    have g := dadd_M8 (show i ≤ 11 by omega) hx (el7 (unk_s (hF i (by omega))).1 (unk_s (hF i (by omega))).2.1)
    refine aw_iload dX6_added_11 0 rfl ?_
    refine aw_aload_n dX6_added_13 4 rfl ?_
    refine aw_getR (b := 2) dX6_added_14 fl_X6_13 rfl (hT.s 0 (by decide)) (hT.n 0 (by decide)) (hT.r 1) ?_
    refine aw_iload_n dX6_added_17 5 rfl ?_
    refine aw_ialdN t dX6_added_18 (hT.s 2 (by decide)) (hT.n 2 (by decide)) rfl (by omega) (by first | decide | omega) ?_
    refine aw_topE hz ?_
    refine aw_icmp_geN i z 114 dX6_added_19 (by decide) rfl rfl (by omega) (by omega) (fun c1 => absurd c1 (by omega)) (fun c1 => ?_)
    refine aw_aload_n dX6_added_22 4 rfl ?_
    refine aw_getR (b := 1) dX6_added_23 fl_X6_7 rfl (hT.s 0 (by decide)) (hT.n 0 (by decide)) (hT.r 0) ?_
    refine aw_iload_n dX6_added_26 5 rfl ?_
    refine aw_ialdN t dX6_added_27 (hT.s 1 (by decide)) (hT.n 1 (by decide)) rfl (by omega) (by first | decide | omega) ?_
    refine aw_topE hk ?_
    refine aw_aload_n dX6_added_28 4 rfl ?_
    refine aw_getR (b := 5) dX6_added_29 fl_X6_23 rfl (hT.s 0 (by decide)) (hT.n 0 (by decide)) (hT.r 4) ?_
    refine aw_bipush (v := 12) dX6_added_32 (by decide) ?_
    refine aw_iload_n dX6_added_34 5 rfl ?_
    refine aw_imulN 12 t dX6_added_35 rfl rfl ?_
    refine aw_iload dX6_added_36 0 rfl ?_
    refine aw_iaddN (12 * t) i dX6_added_38 rfl rfl ?_
    refine aw_laldN ((12 * t) + i) dX6_added_39 (hT.s 5 (by decide)) (hT.n 5 (by decide)) rfl (by omega) (by first | decide | omega) ?_
    refine aw_toplE (hV i (by omega)) ?_
    refine aw_iload_n dX6_added_40 6 rfl ?_
    refine aw_callSl [.int (nI b), .long (V i), .int (nI 7)] [] (sp_X6_turned (d := d - 1) (by omega) b 7 hb (by decide) (V i) (h6 i (by omega))) dX6_added_41 ml_X6_132 sm_X6_turned rfl (dl1 (d := d) (by omega)) rfl rfl (Nat.le_of_ble_eq_true rfl) rfl rfl (Nat.zero_le _) (Nat.zero_le _) ?_
    refine aw_toplE (unk_s (hF i (by omega))).2.2 ?_
    refine aw_lstore [(9, .long (fb 7 (unk 7 (wid b 7 (V i))))), (8, .int (nI i)), (6, .double x), (5, .float FP.fconst0), (3, .long 0), (0, .ref 0), (1, .int (nI t)), (2, .int (nI 7))] dX6_added_44 (Nat.le_of_ble_eq_true rfl) rfl ?_
    refine aw_iload_n dX6_added_46 7 rfl ?_
    refine aw_iconst (v := 4) dX6_added_47 (by decide) ?_
    refine aw_icmp_neN 7 4 61 dX6_added_48 (by decide) rfl rfl (by omega) (by omega) (fun c2 => ?_) (fun c2 => absurd c2 (by decide))
    refine aw_iload_n dX6_added_61 7 rfl ?_
    refine aw_iconst (v := 5) dX6_added_62 (by decide) ?_
    refine aw_icmp_neN 7 5 74 dX6_added_63 (by decide) rfl rfl (by omega) (by omega) (fun c3 => ?_) (fun c3 => absurd c3 (by decide))
    refine aw_iload_n dX6_added_74 7 rfl ?_
    refine aw_bipush (v := 6) dX6_added_75 (by decide) ?_
    refine aw_icmp_neN 7 6 96 dX6_added_77 (by decide) rfl rfl (by omega) (by omega) (fun c4 => ?_) (fun c4 => absurd c4 (by decide))
    refine aw_dload dX6_added_96 2 rfl ?_
    refine aw_bipush (v := 7) dX6_added_98 (by decide) ?_
    refine aw_lload dX6_added_100 0 rfl ?_
    refine aw_callSd [.int 7, .long (fb 7 (unk 7 (wid b 7 (V i))))] [.double x] (sp_X6_value (d := d - 1) (by omega) 7 (by decide) _ (unk_s (hF i (by omega))).1) dX6_added_102 ml_X6_115 sm_X6_value rfl (dl1 (d := d) (by omega)) rfl rfl (Nat.le_of_ble_eq_true rfl) rfl rfl (Nat.zero_le _) (Nat.zero_le _) ?_
    refine aw_dadd dX6_added_105 g.2 ?_
    refine aw_dstore [(6, .double (FP.dadd x (unk 7 (wid b 7 (V i))))), (9, .long (fb 7 (unk 7 (wid b 7 (V i))))), (8, .int (nI i)), (5, .float FP.fconst0), (3, .long 0), (0, .ref 0), (1, .int (nI t)), (2, .int (nI 7))] dX6_added_106 (Nat.le_of_ble_eq_true rfl) rfl ?_
    refine aw_iincN i 1 [(8, .int (nI (i + 1))), (6, .double (FP.dadd x (unk 7 (wid b 7 (V i))))), (9, .long (fb 7 (unk 7 (wid b 7 (V i))))), (5, .float FP.fconst0), (3, .long 0), (0, .ref 0), (1, .int (nI t)), (2, .int (nI 7))] dX6_added_108 2 rfl rfl rfl (Nat.le_of_ble_eq_true rfl) rfl ?_
    refine aw_goto 11 dX6_added_111 (by decide) ?_
    refine aw_sub [0, 1, 3, 4, 5, 6, 7, 2] rfl ?_
    exact ih (i + 1) _ [(9, .long (fb 7 (unk 7 (wid b 7 (V i)))))] (by omega) g.1
theorem sp_ad7 {d : Nat} (hd : 3 ≤ d) {M : xM} {t z b : Nat} {V : Nat → Int64} (hT : TR M) (ht : t < 12) (hz : mI M 2 t = nI z) (hz2 : z ≤ 12) (hk : mI M 1 t = nI b) (hb : b < 8) (hV : ∀ k, k < z → mL M 5 (12 * t + k) = V k) (h6 : ∀ k, k < z → b = 6 → okF 6 (V k)) (hF : ∀ k, k < z → okF 7 (wid b 7 (V k))) : Sp (fX6_added d) [.ref 0, .int (nI t), .int (nI 7)] M (dt (some (.long (fb 7 (dS (D7 b V) z 0 FP.dconst0)))) M) := by
  refine Sp.of pn_X6 (Nat.le_of_ble_eq_true rfl) (fun h => Bool.noConfusion h) ?_
  refine aw_lconst (v := 0) dX6_added_0 (by decide) ?_
  refine aw_lstore_n [(3, .long 0), (0, .ref 0), (1, .int (nI t)), (2, .int (nI 7))] dX6_added_1 (Nat.le_of_ble_eq_true rfl) rfl ?_
  refine aw_fconst0 dX6_added_2 ?_
  refine aw_fstore [(5, .float FP.fconst0), (3, .long 0), (0, .ref 0), (1, .int (nI t)), (2, .int (nI 7))] dX6_added_3 (Nat.le_of_ble_eq_true rfl) rfl ?_
  refine aw_dconst0 dX6_added_5 ?_
  refine aw_dstore [(6, .double FP.dconst0), (5, .float FP.fconst0), (3, .long 0), (0, .ref 0), (1, .int (nI t)), (2, .int (nI 7))] dX6_added_6 (Nat.le_of_ble_eq_true rfl) rfl ?_
  refine aw_iconst (v := 0) dX6_added_8 (by decide) ?_
  refine aw_istore [(8, .int 0), (6, .double FP.dconst0), (5, .float FP.fconst0), (3, .long 0), (0, .ref 0), (1, .int (nI t)), (2, .int (nI 7))] dX6_added_9 (Nat.le_of_ble_eq_true rfl) rfl ?_
  exact lp_ad7 hd hT ht hz hz2 hk hb hV h6 hF z 0 _ [] (by omega) M8_d0
theorem sp_X5_sum_bad {d : Nat} (hd : 6 ≤ d) {M : xM} (x1 x2 : Int32) (hT : TC M) (h : x2 < 4 ∨ (¬ x2 < 4 ∧ ¬ x2 ≤ 7)) : Sp (fX5_sum d) [.ref 0, .int x1, .int x2] M (dt (some (.long 0)) (tX5_report M (-1) (-1))) := by
  refine Sp.of pn_X5 (Nat.le_of_ble_eq_true rfl) (fun h => Bool.noConfusion h) ?_
  rcases h with h | ⟨h, h2⟩
  · refine aw_iload_n dX5_sum_0 2 rfl ?_
    refine aw_iconst (v := 4) dX5_sum_1 (by decide) ?_
    refine aw_icmp_lt 11 dX5_sum_2 (by decide) (fun c1 => ?_) (fun c1 => absurd h c1)
    refine aw_iconst (v := -1) dX5_sum_11 (by decide) ?_
    refine aw_goto 20 dX5_sum_12 (by decide) ?_
    refine aw_istore_n [(3, .int (-1)), (0, .ref 0), (1, .int x1), (2, .int x2)] dX5_sum_20 (Nat.le_of_ble_eq_true rfl) rfl ?_
    refine aw_iload_n dX5_sum_21 0 rfl ?_
    refine aw_if_eq 34 dX5_sum_22 (by decide) (fun c2 => absurd c2 (by decide)) (fun c2 => ?_)
    refine aw_aload_n dX5_sum_25 1 rfl ?_
    refine aw_iload_n dX5_sum_26 0 rfl ?_
    refine aw_iconst (v := -1) dX5_sum_27 (by decide) ?_
    refine aw_callVi [.int (-1), .int (-1)] [] (sp_X5_report (d := d - 1) (by omega) (-1) (-1) hT) dX5_sum_28 ml_X5_138 im_X5_report (hT.s 0 (by decide)) (hT.n 0 (by decide)) rfl rfl (dl1 (d := d) (by omega)) rfl rfl (Nat.le_of_ble_eq_true rfl) rfl rfl (Nat.zero_le _) (Nat.zero_le _) ?_
    refine aw_pop dX5_sum_31 rfl ?_
    refine aw_lconst (v := 0) dX5_sum_32 (by decide) ?_
    refine aw_lret dX5_sum_33 rfl (Nat.zero_le _) (Nat.zero_le _) ?_
    exact ⟨rfl, rfl⟩
  · refine aw_iload_n dX5_sum_0 2 rfl ?_
    refine aw_iconst (v := 4) dX5_sum_1 (by decide) ?_
    refine aw_icmp_lt 11 dX5_sum_2 (by decide) (fun c1 => absurd c1 h) (fun c1 => ?_)
    refine aw_iload_n dX5_sum_5 2 rfl ?_
    refine aw_bipush (v := 7) dX5_sum_6 (by decide) ?_
    refine aw_icmp_le 15 dX5_sum_8 (by decide) (fun c2 => absurd c2 h2) (fun c2 => ?_)
    refine aw_iconst (v := -1) dX5_sum_11 (by decide) ?_
    refine aw_goto 20 dX5_sum_12 (by decide) ?_
    refine aw_istore_n [(3, .int (-1)), (0, .ref 0), (1, .int x1), (2, .int x2)] dX5_sum_20 (Nat.le_of_ble_eq_true rfl) rfl ?_
    refine aw_iload_n dX5_sum_21 0 rfl ?_
    refine aw_if_eq 34 dX5_sum_22 (by decide) (fun c3 => absurd c3 (by decide)) (fun c3 => ?_)
    refine aw_aload_n dX5_sum_25 1 rfl ?_
    refine aw_iload_n dX5_sum_26 0 rfl ?_
    refine aw_iconst (v := -1) dX5_sum_27 (by decide) ?_
    refine aw_callVi [.int (-1), .int (-1)] [] (sp_X5_report (d := d - 1) (by omega) (-1) (-1) hT) dX5_sum_28 ml_X5_138 im_X5_report (hT.s 0 (by decide)) (hT.n 0 (by decide)) rfl rfl (dl1 (d := d) (by omega)) rfl rfl (Nat.le_of_ble_eq_true rfl) rfl rfl (Nat.zero_le _) (Nat.zero_le _) ?_
    refine aw_pop dX5_sum_31 rfl ?_
    refine aw_lconst (v := 0) dX5_sum_32 (by decide) ?_
    refine aw_lret dX5_sum_33 rfl (Nat.zero_le _) (Nat.zero_le _) ?_
    exact ⟨rfl, rfl⟩
theorem sp_X5_sum_e {d : Nat} (hd : 6 ≤ d) {M : xM} (x1 x2 e : Int32) (hT : TC M) (h : ¬ x2 < 4) (h2 : x2 ≤ 7) (h3 : sX5_primitiveError M x1 = e) (he : ¬ e = 0) : Sp (fX5_sum d) [.ref 0, .int x1, .int x2] M (dt (some (.long 0)) (tX5_report M e (-1))) := by
  refine Sp.of pn_X5 (Nat.le_of_ble_eq_true rfl) (fun h => Bool.noConfusion h) ?_
  refine aw_iload_n dX5_sum_0 2 rfl ?_
  refine aw_iconst (v := 4) dX5_sum_1 (by decide) ?_
  refine aw_icmp_lt 11 dX5_sum_2 (by decide) (fun c1 => absurd c1 h) (fun c1 => ?_)
  refine aw_iload_n dX5_sum_5 2 rfl ?_
  refine aw_bipush (v := 7) dX5_sum_6 (by decide) ?_
  refine aw_icmp_le 15 dX5_sum_8 (by decide) (fun c2 => ?_) (fun c2 => absurd h2 c2)
  refine aw_aload_n dX5_sum_15 0 rfl ?_
  refine aw_iload_n dX5_sum_16 1 rfl ?_
  refine aw_callVi [.int x1] [] (sp_X5_primitiveError (d := d - 1) (by omega) x1 hT) dX5_sum_17 ml_X5_201 im_X5_primitiveError (hT.s 0 (by decide)) (hT.n 0 (by decide)) rfl rfl (dl1 (d := d) (by omega)) rfl rfl (Nat.le_of_ble_eq_true rfl) rfl rfl (Nat.zero_le _) (Nat.zero_le _) ?_
  refine aw_topE h3 ?_
  refine aw_istore_n [(3, .int e), (0, .ref 0), (1, .int x1), (2, .int x2)] dX5_sum_20 (Nat.le_of_ble_eq_true rfl) rfl ?_
  refine aw_iload_n dX5_sum_21 0 rfl ?_
  refine aw_if_eq 34 dX5_sum_22 (by decide) (fun c3 => absurd c3 he) (fun c3 => ?_)
  refine aw_aload_n dX5_sum_25 1 rfl ?_
  refine aw_iload_n dX5_sum_26 0 rfl ?_
  refine aw_iconst (v := -1) dX5_sum_27 (by decide) ?_
  refine aw_callVi [.int e, .int (-1)] [] (sp_X5_report (d := d - 1) (by omega) e (-1) hT) dX5_sum_28 ml_X5_138 im_X5_report (hT.s 0 (by decide)) (hT.n 0 (by decide)) rfl rfl (dl1 (d := d) (by omega)) rfl rfl (Nat.le_of_ble_eq_true rfl) rfl rfl (Nat.zero_le _) (Nat.zero_le _) ?_
  refine aw_pop dX5_sum_31 rfl ?_
  refine aw_lconst (v := 0) dX5_sum_32 (by decide) ?_
  refine aw_lret dX5_sum_33 rfl (Nat.zero_le _) (Nat.zero_le _) ?_
  exact ⟨rfl, rfl⟩
theorem sp_X5_sum_k {d : Nat} (hd : 6 ≤ d) {M : xM} {t z b : Nat} (hT : TC M) (ht : t < 12) (hz : mI M (54 + 3 * t) 1 = nI z) (hz2 : z ≤ 12) (hk : mI M (54 + 3 * t) 0 = nI b) (hb : b < 8) (h3 : sX5_primitiveError M (nI t) = 0) (k : Nat) (hk4 : 4 ≤ k) (hk8 : k < 8) (h0 : 0 < z) (h4 : sX0_widens (nI b) (nI k) = false) : Sp (fX5_sum d) [.ref 0, .int (nI t), .int (nI k)] M (dt (some (.long 0)) (tX5_report M (-9) 0)) := by
  refine Sp.of pn_X5 (Nat.le_of_ble_eq_true rfl) (fun h => Bool.noConfusion h) ?_
  have nz : ¬ nI z ≤ 0 := by rw [show z = z - 1 + 1 by omega]; exact nI_p0 (by omega)
  refine aw_iload_n dX5_sum_0 2 rfl ?_
  refine aw_iconst (v := 4) dX5_sum_1 (by decide) ?_
  refine aw_icmp_ltN k 4 11 dX5_sum_2 (by decide) rfl rfl (by omega) (by omega) (fun c1 => absurd c1 (by omega)) (fun c1 => ?_)
  refine aw_iload_n dX5_sum_5 2 rfl ?_
  refine aw_bipush (v := 7) dX5_sum_6 (by decide) ?_
  refine aw_icmp_leN k 7 15 dX5_sum_8 (by decide) rfl rfl (by omega) (by omega) (fun c2 => ?_) (fun c2 => absurd (by omega) c2)
  refine aw_aload_n dX5_sum_15 0 rfl ?_
  refine aw_iload_n dX5_sum_16 1 rfl ?_
  refine aw_callVi [.int (nI t)] [] (sp_X5_primitiveError (d := d - 1) (by omega) (nI t) hT) dX5_sum_17 ml_X5_201 im_X5_primitiveError (hT.s 0 (by decide)) (hT.n 0 (by decide)) rfl rfl (dl1 (d := d) (by omega)) rfl rfl (Nat.le_of_ble_eq_true rfl) rfl rfl (Nat.zero_le _) (Nat.zero_le _) ?_
  refine aw_topE h3 ?_
  refine aw_istore_n [(3, .int 0), (0, .ref 0), (1, .int (nI t)), (2, .int (nI k))] dX5_sum_20 (Nat.le_of_ble_eq_true rfl) rfl ?_
  refine aw_iload_n dX5_sum_21 0 rfl ?_
  refine aw_if_eq 34 dX5_sum_22 (by decide) (fun c3 => ?_) (fun c3 => absurd rfl c3)
  refine aw_aload_n dX5_sum_34 1 rfl ?_
  refine aw_getR (b := 1) dX5_sum_35 fl_X5_11 rfl (hT.s 0 (by decide)) (hT.n 0 (by decide)) (hT.r 0 0 (by decide) (by decide)) ?_
  refine aw_iload_n dX5_sum_38 2 rfl ?_
  refine aw_aaldN t (54 + 3 * t) dX5_sum_39 (hT.s 1 (by decide)) (hT.n 1 (by decide)) rfl (by omega) (by first | decide | omega) (hT.slot (by omega)) ?_
  refine aw_astore [(4, .ref (54 + 3 * t)), (3, .int 0), (0, .ref 0), (1, .int (nI t)), (2, .int (nI k))] dX5_sum_40 (Nat.le_of_ble_eq_true rfl) rfl ?_
  refine aw_aload dX5_sum_42 0 rfl ?_
  refine aw_getI dX5_sum_44 fl_X5_104 (hT.row (t := t) (by omega)).1 (hT.row (t := t) (by omega)).n0 ?_
  refine aw_topE hz ?_
  refine aw_if_le 72 dX5_sum_47 (by decide) (fun c4 => absurd c4 nz) (fun c4 => ?_)
  refine aw_aload dX5_sum_50 0 rfl ?_
  refine aw_getI dX5_sum_52 fl_X5_98 (hT.row (t := t) (by omega)).1 (hT.row (t := t) (by omega)).n0 ?_
  refine aw_topE hk ?_
  refine aw_iload_n dX5_sum_55 4 rfl ?_
  refine aw_callSi [.int (nI b), .int (nI k)] [] (sp_X0_widens (d := d - 1) (by omega) (nI b) (nI k)) dX5_sum_56 ml_X5_167 sm_X0_widens rfl (dl1 (d := d) (by omega)) rfl rfl (Nat.le_of_ble_eq_true rfl) rfl rfl (Nat.zero_le _) (Nat.zero_le _) ?_
  refine aw_if_ne 72 dX5_sum_59 (by decide) (fun c5 => absurd (bz_0.mpr h4) c5) (fun c5 => ?_)
  refine aw_aload_n dX5_sum_62 2 rfl ?_
  refine aw_bipush (v := -9) dX5_sum_63 (by decide) ?_
  refine aw_iconst (v := 0) dX5_sum_65 (by decide) ?_
  refine aw_callVi [.int (-9), .int 0] [] (sp_X5_report (d := d - 1) (by omega) (-9) 0 hT) dX5_sum_66 ml_X5_138 im_X5_report (hT.s 0 (by decide)) (hT.n 0 (by decide)) rfl rfl (dl1 (d := d) (by omega)) rfl rfl (Nat.le_of_ble_eq_true rfl) rfl rfl (Nat.zero_le _) (Nat.zero_le _) ?_
  refine aw_pop dX5_sum_69 rfl ?_
  refine aw_lconst (v := 0) dX5_sum_70 (by decide) ?_
  refine aw_lret dX5_sum_71 rfl (Nat.zero_le _) (Nat.zero_le _) ?_
  exact ⟨rfl, rfl⟩
theorem sp_X5_sum_w {d : Nat} (hd : 6 ≤ d) {M : xM} {t z b : Nat} (hT : TC M) (ht : t < 12) (hz : mI M (54 + 3 * t) 1 = nI z) (hz2 : z ≤ 12) (hk : mI M (54 + 3 * t) 0 = nI b) (hb : b < 8) (h3 : sX5_primitiveError M (nI t) = 0) (k : Nat) (hk4 : 4 ≤ k) (hk8 : k < 8) (hkk : k ≤ 5) (h4 : z = 0 ∨ (0 < z ∧ sX0_widens (nI b) (nI k) = true)) {r : Int64} (hs : Sp (fX5_wholeSum (d - 1)) [.ref (54 + 3 * t), .int (nI k)] (tX5_report M 0 (-1)) (dt (some (.long r)) (tX5_report M 0 (-1)))) : Sp (fX5_sum d) [.ref 0, .int (nI t), .int (nI k)] M (dt (some (.long r)) (tX5_report M 0 (-1))) := by
  refine Sp.of pn_X5 (Nat.le_of_ble_eq_true rfl) (fun h => Bool.noConfusion h) ?_
  rcases h4 with h4 | ⟨h0, h4⟩
  · have nz : nI z ≤ 0 := by rw [h4]; decide
    refine aw_iload_n dX5_sum_0 2 rfl ?_
    refine aw_iconst (v := 4) dX5_sum_1 (by decide) ?_
    refine aw_icmp_ltN k 4 11 dX5_sum_2 (by decide) rfl rfl (by omega) (by omega) (fun c1 => absurd c1 (by omega)) (fun c1 => ?_)
    refine aw_iload_n dX5_sum_5 2 rfl ?_
    refine aw_bipush (v := 7) dX5_sum_6 (by decide) ?_
    refine aw_icmp_leN k 7 15 dX5_sum_8 (by decide) rfl rfl (by omega) (by omega) (fun c2 => ?_) (fun c2 => absurd (by omega) c2)
    refine aw_aload_n dX5_sum_15 0 rfl ?_
    refine aw_iload_n dX5_sum_16 1 rfl ?_
    refine aw_callVi [.int (nI t)] [] (sp_X5_primitiveError (d := d - 1) (by omega) (nI t) hT) dX5_sum_17 ml_X5_201 im_X5_primitiveError (hT.s 0 (by decide)) (hT.n 0 (by decide)) rfl rfl (dl1 (d := d) (by omega)) rfl rfl (Nat.le_of_ble_eq_true rfl) rfl rfl (Nat.zero_le _) (Nat.zero_le _) ?_
    refine aw_topE h3 ?_
    refine aw_istore_n [(3, .int 0), (0, .ref 0), (1, .int (nI t)), (2, .int (nI k))] dX5_sum_20 (Nat.le_of_ble_eq_true rfl) rfl ?_
    refine aw_iload_n dX5_sum_21 0 rfl ?_
    refine aw_if_eq 34 dX5_sum_22 (by decide) (fun c3 => ?_) (fun c3 => absurd rfl c3)
    refine aw_aload_n dX5_sum_34 1 rfl ?_
    refine aw_getR (b := 1) dX5_sum_35 fl_X5_11 rfl (hT.s 0 (by decide)) (hT.n 0 (by decide)) (hT.r 0 0 (by decide) (by decide)) ?_
    refine aw_iload_n dX5_sum_38 2 rfl ?_
    refine aw_aaldN t (54 + 3 * t) dX5_sum_39 (hT.s 1 (by decide)) (hT.n 1 (by decide)) rfl (by omega) (by first | decide | omega) (hT.slot (by omega)) ?_
    refine aw_astore [(4, .ref (54 + 3 * t)), (3, .int 0), (0, .ref 0), (1, .int (nI t)), (2, .int (nI k))] dX5_sum_40 (Nat.le_of_ble_eq_true rfl) rfl ?_
    refine aw_aload dX5_sum_42 0 rfl ?_
    refine aw_getI dX5_sum_44 fl_X5_104 (hT.row (t := t) (by omega)).1 (hT.row (t := t) (by omega)).n0 ?_
    refine aw_topE hz ?_
    refine aw_if_le 72 dX5_sum_47 (by decide) (fun c4 => ?_) (fun c4 => absurd nz c4)
    refine aw_aload_n dX5_sum_72 2 rfl ?_
    refine aw_iconst (v := 0) dX5_sum_73 (by decide) ?_
    refine aw_iconst (v := -1) dX5_sum_74 (by decide) ?_
    refine aw_callVi [.int 0, .int (-1)] [] (sp_X5_report (d := d - 1) (by omega) 0 (-1) hT) dX5_sum_75 ml_X5_138 im_X5_report (hT.s 0 (by decide)) (hT.n 0 (by decide)) rfl rfl (dl1 (d := d) (by omega)) rfl rfl (Nat.le_of_ble_eq_true rfl) rfl rfl (Nat.zero_le _) (Nat.zero_le _) ?_
    refine aw_pop dX5_sum_78 rfl ?_
    refine aw_iload_n dX5_sum_79 4 rfl ?_
    refine aw_iconst (v := 5) dX5_sum_80 (by decide) ?_
    refine aw_icmp_gtN k 5 93 dX5_sum_81 (by decide) rfl rfl (by omega) (by omega) (fun c5 => absurd c5 (by omega)) (fun c5 => ?_)
    refine aw_aload dX5_sum_84 0 rfl ?_
    refine aw_iload_n dX5_sum_86 4 rfl ?_
    refine aw_callSl [.ref (54 + 3 * t), .int (nI k)] [] hs dX5_sum_87 ml_X5_204 sm_X5_wholeSum rfl (dl1 (d := d) (by omega)) rfl rfl (Nat.le_of_ble_eq_true rfl) rfl rfl (Nat.zero_le _) (Nat.zero_le _) ?_
    refine aw_goto 112 dX5_sum_90 (by decide) ?_
    refine aw_lret dX5_sum_112 rfl (Nat.zero_le _) (Nat.zero_le _) ?_
    exact ⟨rfl, rfl⟩
  · have nz : ¬ nI z ≤ 0 := by rw [show z = z - 1 + 1 by omega]; exact nI_p0 (by omega)
    refine aw_iload_n dX5_sum_0 2 rfl ?_
    refine aw_iconst (v := 4) dX5_sum_1 (by decide) ?_
    refine aw_icmp_ltN k 4 11 dX5_sum_2 (by decide) rfl rfl (by omega) (by omega) (fun c1 => absurd c1 (by omega)) (fun c1 => ?_)
    refine aw_iload_n dX5_sum_5 2 rfl ?_
    refine aw_bipush (v := 7) dX5_sum_6 (by decide) ?_
    refine aw_icmp_leN k 7 15 dX5_sum_8 (by decide) rfl rfl (by omega) (by omega) (fun c2 => ?_) (fun c2 => absurd (by omega) c2)
    refine aw_aload_n dX5_sum_15 0 rfl ?_
    refine aw_iload_n dX5_sum_16 1 rfl ?_
    refine aw_callVi [.int (nI t)] [] (sp_X5_primitiveError (d := d - 1) (by omega) (nI t) hT) dX5_sum_17 ml_X5_201 im_X5_primitiveError (hT.s 0 (by decide)) (hT.n 0 (by decide)) rfl rfl (dl1 (d := d) (by omega)) rfl rfl (Nat.le_of_ble_eq_true rfl) rfl rfl (Nat.zero_le _) (Nat.zero_le _) ?_
    refine aw_topE h3 ?_
    refine aw_istore_n [(3, .int 0), (0, .ref 0), (1, .int (nI t)), (2, .int (nI k))] dX5_sum_20 (Nat.le_of_ble_eq_true rfl) rfl ?_
    refine aw_iload_n dX5_sum_21 0 rfl ?_
    refine aw_if_eq 34 dX5_sum_22 (by decide) (fun c3 => ?_) (fun c3 => absurd rfl c3)
    refine aw_aload_n dX5_sum_34 1 rfl ?_
    refine aw_getR (b := 1) dX5_sum_35 fl_X5_11 rfl (hT.s 0 (by decide)) (hT.n 0 (by decide)) (hT.r 0 0 (by decide) (by decide)) ?_
    refine aw_iload_n dX5_sum_38 2 rfl ?_
    refine aw_aaldN t (54 + 3 * t) dX5_sum_39 (hT.s 1 (by decide)) (hT.n 1 (by decide)) rfl (by omega) (by first | decide | omega) (hT.slot (by omega)) ?_
    refine aw_astore [(4, .ref (54 + 3 * t)), (3, .int 0), (0, .ref 0), (1, .int (nI t)), (2, .int (nI k))] dX5_sum_40 (Nat.le_of_ble_eq_true rfl) rfl ?_
    refine aw_aload dX5_sum_42 0 rfl ?_
    refine aw_getI dX5_sum_44 fl_X5_104 (hT.row (t := t) (by omega)).1 (hT.row (t := t) (by omega)).n0 ?_
    refine aw_topE hz ?_
    refine aw_if_le 72 dX5_sum_47 (by decide) (fun c4 => absurd c4 nz) (fun c4 => ?_)
    refine aw_aload dX5_sum_50 0 rfl ?_
    refine aw_getI dX5_sum_52 fl_X5_98 (hT.row (t := t) (by omega)).1 (hT.row (t := t) (by omega)).n0 ?_
    refine aw_topE hk ?_
    refine aw_iload_n dX5_sum_55 4 rfl ?_
    refine aw_callSi [.int (nI b), .int (nI k)] [] (sp_X0_widens (d := d - 1) (by omega) (nI b) (nI k)) dX5_sum_56 ml_X5_167 sm_X0_widens rfl (dl1 (d := d) (by omega)) rfl rfl (Nat.le_of_ble_eq_true rfl) rfl rfl (Nat.zero_le _) (Nat.zero_le _) ?_
    refine aw_if_ne 72 dX5_sum_59 (by decide) (fun c5 => ?_) (fun c5 => absurd c5 (bz_n0.mpr h4))
    refine aw_aload_n dX5_sum_72 2 rfl ?_
    refine aw_iconst (v := 0) dX5_sum_73 (by decide) ?_
    refine aw_iconst (v := -1) dX5_sum_74 (by decide) ?_
    refine aw_callVi [.int 0, .int (-1)] [] (sp_X5_report (d := d - 1) (by omega) 0 (-1) hT) dX5_sum_75 ml_X5_138 im_X5_report (hT.s 0 (by decide)) (hT.n 0 (by decide)) rfl rfl (dl1 (d := d) (by omega)) rfl rfl (Nat.le_of_ble_eq_true rfl) rfl rfl (Nat.zero_le _) (Nat.zero_le _) ?_
    refine aw_pop dX5_sum_78 rfl ?_
    refine aw_iload_n dX5_sum_79 4 rfl ?_
    refine aw_iconst (v := 5) dX5_sum_80 (by decide) ?_
    refine aw_icmp_gtN k 5 93 dX5_sum_81 (by decide) rfl rfl (by omega) (by omega) (fun c6 => absurd c6 (by omega)) (fun c6 => ?_)
    refine aw_aload dX5_sum_84 0 rfl ?_
    refine aw_iload_n dX5_sum_86 4 rfl ?_
    refine aw_callSl [.ref (54 + 3 * t), .int (nI k)] [] hs dX5_sum_87 ml_X5_204 sm_X5_wholeSum rfl (dl1 (d := d) (by omega)) rfl rfl (Nat.le_of_ble_eq_true rfl) rfl rfl (Nat.zero_le _) (Nat.zero_le _) ?_
    refine aw_goto 112 dX5_sum_90 (by decide) ?_
    refine aw_lret dX5_sum_112 rfl (Nat.zero_le _) (Nat.zero_le _) ?_
    exact ⟨rfl, rfl⟩
theorem sp_X5_sum_f {d : Nat} (hd : 6 ≤ d) {M : xM} {t z b : Nat} (hT : TC M) (ht : t < 12) (hz : mI M (54 + 3 * t) 1 = nI z) (hz2 : z ≤ 12) (hk : mI M (54 + 3 * t) 0 = nI b) (hb : b < 8) (h3 : sX5_primitiveError M (nI t) = 0) (k : Nat) (hk4 : 4 ≤ k) (hk8 : k < 8) (hkk : k = 6) (h4 : z = 0 ∨ (0 < z ∧ sX0_widens (nI b) (nI k) = true)) {r : Int64} (hs : Sp (fX5_floatSum (d - 1)) [.ref (54 + 3 * t)] (tX5_report M 0 (-1)) (dt (some (.long r)) (tX5_report M 0 (-1)))) : Sp (fX5_sum d) [.ref 0, .int (nI t), .int (nI k)] M (dt (some (.long r)) (tX5_report M 0 (-1))) := by
  refine Sp.of pn_X5 (Nat.le_of_ble_eq_true rfl) (fun h => Bool.noConfusion h) ?_
  rcases h4 with h4 | ⟨h0, h4⟩
  · have nz : nI z ≤ 0 := by rw [h4]; decide
    refine aw_iload_n dX5_sum_0 2 rfl ?_
    refine aw_iconst (v := 4) dX5_sum_1 (by decide) ?_
    refine aw_icmp_ltN k 4 11 dX5_sum_2 (by decide) rfl rfl (by omega) (by omega) (fun c1 => absurd c1 (by omega)) (fun c1 => ?_)
    refine aw_iload_n dX5_sum_5 2 rfl ?_
    refine aw_bipush (v := 7) dX5_sum_6 (by decide) ?_
    refine aw_icmp_leN k 7 15 dX5_sum_8 (by decide) rfl rfl (by omega) (by omega) (fun c2 => ?_) (fun c2 => absurd (by omega) c2)
    refine aw_aload_n dX5_sum_15 0 rfl ?_
    refine aw_iload_n dX5_sum_16 1 rfl ?_
    refine aw_callVi [.int (nI t)] [] (sp_X5_primitiveError (d := d - 1) (by omega) (nI t) hT) dX5_sum_17 ml_X5_201 im_X5_primitiveError (hT.s 0 (by decide)) (hT.n 0 (by decide)) rfl rfl (dl1 (d := d) (by omega)) rfl rfl (Nat.le_of_ble_eq_true rfl) rfl rfl (Nat.zero_le _) (Nat.zero_le _) ?_
    refine aw_topE h3 ?_
    refine aw_istore_n [(3, .int 0), (0, .ref 0), (1, .int (nI t)), (2, .int (nI k))] dX5_sum_20 (Nat.le_of_ble_eq_true rfl) rfl ?_
    refine aw_iload_n dX5_sum_21 0 rfl ?_
    refine aw_if_eq 34 dX5_sum_22 (by decide) (fun c3 => ?_) (fun c3 => absurd rfl c3)
    refine aw_aload_n dX5_sum_34 1 rfl ?_
    refine aw_getR (b := 1) dX5_sum_35 fl_X5_11 rfl (hT.s 0 (by decide)) (hT.n 0 (by decide)) (hT.r 0 0 (by decide) (by decide)) ?_
    refine aw_iload_n dX5_sum_38 2 rfl ?_
    refine aw_aaldN t (54 + 3 * t) dX5_sum_39 (hT.s 1 (by decide)) (hT.n 1 (by decide)) rfl (by omega) (by first | decide | omega) (hT.slot (by omega)) ?_
    refine aw_astore [(4, .ref (54 + 3 * t)), (3, .int 0), (0, .ref 0), (1, .int (nI t)), (2, .int (nI k))] dX5_sum_40 (Nat.le_of_ble_eq_true rfl) rfl ?_
    refine aw_aload dX5_sum_42 0 rfl ?_
    refine aw_getI dX5_sum_44 fl_X5_104 (hT.row (t := t) (by omega)).1 (hT.row (t := t) (by omega)).n0 ?_
    refine aw_topE hz ?_
    refine aw_if_le 72 dX5_sum_47 (by decide) (fun c4 => ?_) (fun c4 => absurd nz c4)
    refine aw_aload_n dX5_sum_72 2 rfl ?_
    refine aw_iconst (v := 0) dX5_sum_73 (by decide) ?_
    refine aw_iconst (v := -1) dX5_sum_74 (by decide) ?_
    refine aw_callVi [.int 0, .int (-1)] [] (sp_X5_report (d := d - 1) (by omega) 0 (-1) hT) dX5_sum_75 ml_X5_138 im_X5_report (hT.s 0 (by decide)) (hT.n 0 (by decide)) rfl rfl (dl1 (d := d) (by omega)) rfl rfl (Nat.le_of_ble_eq_true rfl) rfl rfl (Nat.zero_le _) (Nat.zero_le _) ?_
    refine aw_pop dX5_sum_78 rfl ?_
    refine aw_iload_n dX5_sum_79 4 rfl ?_
    refine aw_iconst (v := 5) dX5_sum_80 (by decide) ?_
    refine aw_icmp_gtN k 5 93 dX5_sum_81 (by decide) rfl rfl (by omega) (by omega) (fun c5 => ?_) (fun c5 => absurd (by omega) c5)
    refine aw_iload_n dX5_sum_93 4 rfl ?_
    refine aw_bipush (v := 6) dX5_sum_94 (by decide) ?_
    refine aw_icmp_neN k 6 107 dX5_sum_96 (by decide) rfl rfl (by omega) (by omega) (fun c6 => absurd hkk c6) (fun c6 => ?_)
    refine aw_aload dX5_sum_99 0 rfl ?_
    refine aw_callSl [.ref (54 + 3 * t)] [] hs dX5_sum_101 ml_X5_208 sm_X5_floatSum rfl (dl1 (d := d) (by omega)) rfl rfl (Nat.le_of_ble_eq_true rfl) rfl rfl (Nat.zero_le _) (Nat.zero_le _) ?_
    refine aw_goto 112 dX5_sum_104 (by decide) ?_
    refine aw_lret dX5_sum_112 rfl (Nat.zero_le _) (Nat.zero_le _) ?_
    exact ⟨rfl, rfl⟩
  · have nz : ¬ nI z ≤ 0 := by rw [show z = z - 1 + 1 by omega]; exact nI_p0 (by omega)
    refine aw_iload_n dX5_sum_0 2 rfl ?_
    refine aw_iconst (v := 4) dX5_sum_1 (by decide) ?_
    refine aw_icmp_ltN k 4 11 dX5_sum_2 (by decide) rfl rfl (by omega) (by omega) (fun c1 => absurd c1 (by omega)) (fun c1 => ?_)
    refine aw_iload_n dX5_sum_5 2 rfl ?_
    refine aw_bipush (v := 7) dX5_sum_6 (by decide) ?_
    refine aw_icmp_leN k 7 15 dX5_sum_8 (by decide) rfl rfl (by omega) (by omega) (fun c2 => ?_) (fun c2 => absurd (by omega) c2)
    refine aw_aload_n dX5_sum_15 0 rfl ?_
    refine aw_iload_n dX5_sum_16 1 rfl ?_
    refine aw_callVi [.int (nI t)] [] (sp_X5_primitiveError (d := d - 1) (by omega) (nI t) hT) dX5_sum_17 ml_X5_201 im_X5_primitiveError (hT.s 0 (by decide)) (hT.n 0 (by decide)) rfl rfl (dl1 (d := d) (by omega)) rfl rfl (Nat.le_of_ble_eq_true rfl) rfl rfl (Nat.zero_le _) (Nat.zero_le _) ?_
    refine aw_topE h3 ?_
    refine aw_istore_n [(3, .int 0), (0, .ref 0), (1, .int (nI t)), (2, .int (nI k))] dX5_sum_20 (Nat.le_of_ble_eq_true rfl) rfl ?_
    refine aw_iload_n dX5_sum_21 0 rfl ?_
    refine aw_if_eq 34 dX5_sum_22 (by decide) (fun c3 => ?_) (fun c3 => absurd rfl c3)
    refine aw_aload_n dX5_sum_34 1 rfl ?_
    refine aw_getR (b := 1) dX5_sum_35 fl_X5_11 rfl (hT.s 0 (by decide)) (hT.n 0 (by decide)) (hT.r 0 0 (by decide) (by decide)) ?_
    refine aw_iload_n dX5_sum_38 2 rfl ?_
    refine aw_aaldN t (54 + 3 * t) dX5_sum_39 (hT.s 1 (by decide)) (hT.n 1 (by decide)) rfl (by omega) (by first | decide | omega) (hT.slot (by omega)) ?_
    refine aw_astore [(4, .ref (54 + 3 * t)), (3, .int 0), (0, .ref 0), (1, .int (nI t)), (2, .int (nI k))] dX5_sum_40 (Nat.le_of_ble_eq_true rfl) rfl ?_
    refine aw_aload dX5_sum_42 0 rfl ?_
    refine aw_getI dX5_sum_44 fl_X5_104 (hT.row (t := t) (by omega)).1 (hT.row (t := t) (by omega)).n0 ?_
    refine aw_topE hz ?_
    refine aw_if_le 72 dX5_sum_47 (by decide) (fun c4 => absurd c4 nz) (fun c4 => ?_)
    refine aw_aload dX5_sum_50 0 rfl ?_
    refine aw_getI dX5_sum_52 fl_X5_98 (hT.row (t := t) (by omega)).1 (hT.row (t := t) (by omega)).n0 ?_
    refine aw_topE hk ?_
    refine aw_iload_n dX5_sum_55 4 rfl ?_
    refine aw_callSi [.int (nI b), .int (nI k)] [] (sp_X0_widens (d := d - 1) (by omega) (nI b) (nI k)) dX5_sum_56 ml_X5_167 sm_X0_widens rfl (dl1 (d := d) (by omega)) rfl rfl (Nat.le_of_ble_eq_true rfl) rfl rfl (Nat.zero_le _) (Nat.zero_le _) ?_
    refine aw_if_ne 72 dX5_sum_59 (by decide) (fun c5 => ?_) (fun c5 => absurd c5 (bz_n0.mpr h4))
    refine aw_aload_n dX5_sum_72 2 rfl ?_
    refine aw_iconst (v := 0) dX5_sum_73 (by decide) ?_
    refine aw_iconst (v := -1) dX5_sum_74 (by decide) ?_
    refine aw_callVi [.int 0, .int (-1)] [] (sp_X5_report (d := d - 1) (by omega) 0 (-1) hT) dX5_sum_75 ml_X5_138 im_X5_report (hT.s 0 (by decide)) (hT.n 0 (by decide)) rfl rfl (dl1 (d := d) (by omega)) rfl rfl (Nat.le_of_ble_eq_true rfl) rfl rfl (Nat.zero_le _) (Nat.zero_le _) ?_
    refine aw_pop dX5_sum_78 rfl ?_
    refine aw_iload_n dX5_sum_79 4 rfl ?_
    refine aw_iconst (v := 5) dX5_sum_80 (by decide) ?_
    refine aw_icmp_gtN k 5 93 dX5_sum_81 (by decide) rfl rfl (by omega) (by omega) (fun c6 => ?_) (fun c6 => absurd (by omega) c6)
    refine aw_iload_n dX5_sum_93 4 rfl ?_
    refine aw_bipush (v := 6) dX5_sum_94 (by decide) ?_
    refine aw_icmp_neN k 6 107 dX5_sum_96 (by decide) rfl rfl (by omega) (by omega) (fun c7 => absurd hkk c7) (fun c7 => ?_)
    refine aw_aload dX5_sum_99 0 rfl ?_
    refine aw_callSl [.ref (54 + 3 * t)] [] hs dX5_sum_101 ml_X5_208 sm_X5_floatSum rfl (dl1 (d := d) (by omega)) rfl rfl (Nat.le_of_ble_eq_true rfl) rfl rfl (Nat.zero_le _) (Nat.zero_le _) ?_
    refine aw_goto 112 dX5_sum_104 (by decide) ?_
    refine aw_lret dX5_sum_112 rfl (Nat.zero_le _) (Nat.zero_le _) ?_
    exact ⟨rfl, rfl⟩
theorem sp_X5_sum_d {d : Nat} (hd : 6 ≤ d) {M : xM} {t z b : Nat} (hT : TC M) (ht : t < 12) (hz : mI M (54 + 3 * t) 1 = nI z) (hz2 : z ≤ 12) (hk : mI M (54 + 3 * t) 0 = nI b) (hb : b < 8) (h3 : sX5_primitiveError M (nI t) = 0) (k : Nat) (hk4 : 4 ≤ k) (hk8 : k < 8) (hkk : k = 7) (h4 : z = 0 ∨ (0 < z ∧ sX0_widens (nI b) (nI k) = true)) {r : Int64} (hs : Sp (fX5_doubleSum (d - 1)) [.ref (54 + 3 * t)] (tX5_report M 0 (-1)) (dt (some (.long r)) (tX5_report M 0 (-1)))) : Sp (fX5_sum d) [.ref 0, .int (nI t), .int (nI k)] M (dt (some (.long r)) (tX5_report M 0 (-1))) := by
  refine Sp.of pn_X5 (Nat.le_of_ble_eq_true rfl) (fun h => Bool.noConfusion h) ?_
  rcases h4 with h4 | ⟨h0, h4⟩
  · have nz : nI z ≤ 0 := by rw [h4]; decide
    refine aw_iload_n dX5_sum_0 2 rfl ?_
    refine aw_iconst (v := 4) dX5_sum_1 (by decide) ?_
    refine aw_icmp_ltN k 4 11 dX5_sum_2 (by decide) rfl rfl (by omega) (by omega) (fun c1 => absurd c1 (by omega)) (fun c1 => ?_)
    refine aw_iload_n dX5_sum_5 2 rfl ?_
    refine aw_bipush (v := 7) dX5_sum_6 (by decide) ?_
    refine aw_icmp_leN k 7 15 dX5_sum_8 (by decide) rfl rfl (by omega) (by omega) (fun c2 => ?_) (fun c2 => absurd (by omega) c2)
    refine aw_aload_n dX5_sum_15 0 rfl ?_
    refine aw_iload_n dX5_sum_16 1 rfl ?_
    refine aw_callVi [.int (nI t)] [] (sp_X5_primitiveError (d := d - 1) (by omega) (nI t) hT) dX5_sum_17 ml_X5_201 im_X5_primitiveError (hT.s 0 (by decide)) (hT.n 0 (by decide)) rfl rfl (dl1 (d := d) (by omega)) rfl rfl (Nat.le_of_ble_eq_true rfl) rfl rfl (Nat.zero_le _) (Nat.zero_le _) ?_
    refine aw_topE h3 ?_
    refine aw_istore_n [(3, .int 0), (0, .ref 0), (1, .int (nI t)), (2, .int (nI k))] dX5_sum_20 (Nat.le_of_ble_eq_true rfl) rfl ?_
    refine aw_iload_n dX5_sum_21 0 rfl ?_
    refine aw_if_eq 34 dX5_sum_22 (by decide) (fun c3 => ?_) (fun c3 => absurd rfl c3)
    refine aw_aload_n dX5_sum_34 1 rfl ?_
    refine aw_getR (b := 1) dX5_sum_35 fl_X5_11 rfl (hT.s 0 (by decide)) (hT.n 0 (by decide)) (hT.r 0 0 (by decide) (by decide)) ?_
    refine aw_iload_n dX5_sum_38 2 rfl ?_
    refine aw_aaldN t (54 + 3 * t) dX5_sum_39 (hT.s 1 (by decide)) (hT.n 1 (by decide)) rfl (by omega) (by first | decide | omega) (hT.slot (by omega)) ?_
    refine aw_astore [(4, .ref (54 + 3 * t)), (3, .int 0), (0, .ref 0), (1, .int (nI t)), (2, .int (nI k))] dX5_sum_40 (Nat.le_of_ble_eq_true rfl) rfl ?_
    refine aw_aload dX5_sum_42 0 rfl ?_
    refine aw_getI dX5_sum_44 fl_X5_104 (hT.row (t := t) (by omega)).1 (hT.row (t := t) (by omega)).n0 ?_
    refine aw_topE hz ?_
    refine aw_if_le 72 dX5_sum_47 (by decide) (fun c4 => ?_) (fun c4 => absurd nz c4)
    refine aw_aload_n dX5_sum_72 2 rfl ?_
    refine aw_iconst (v := 0) dX5_sum_73 (by decide) ?_
    refine aw_iconst (v := -1) dX5_sum_74 (by decide) ?_
    refine aw_callVi [.int 0, .int (-1)] [] (sp_X5_report (d := d - 1) (by omega) 0 (-1) hT) dX5_sum_75 ml_X5_138 im_X5_report (hT.s 0 (by decide)) (hT.n 0 (by decide)) rfl rfl (dl1 (d := d) (by omega)) rfl rfl (Nat.le_of_ble_eq_true rfl) rfl rfl (Nat.zero_le _) (Nat.zero_le _) ?_
    refine aw_pop dX5_sum_78 rfl ?_
    refine aw_iload_n dX5_sum_79 4 rfl ?_
    refine aw_iconst (v := 5) dX5_sum_80 (by decide) ?_
    refine aw_icmp_gtN k 5 93 dX5_sum_81 (by decide) rfl rfl (by omega) (by omega) (fun c5 => ?_) (fun c5 => absurd (by omega) c5)
    refine aw_iload_n dX5_sum_93 4 rfl ?_
    refine aw_bipush (v := 6) dX5_sum_94 (by decide) ?_
    refine aw_icmp_neN k 6 107 dX5_sum_96 (by decide) rfl rfl (by omega) (by omega) (fun c6 => ?_) (fun c6 => absurd c6 (by omega))
    refine aw_aload dX5_sum_107 0 rfl ?_
    refine aw_callSl [.ref (54 + 3 * t)] [] hs dX5_sum_109 ml_X5_212 sm_X5_doubleSum rfl (dl1 (d := d) (by omega)) rfl rfl (Nat.le_of_ble_eq_true rfl) rfl rfl (Nat.zero_le _) (Nat.zero_le _) ?_
    refine aw_lret dX5_sum_112 rfl (Nat.zero_le _) (Nat.zero_le _) ?_
    exact ⟨rfl, rfl⟩
  · have nz : ¬ nI z ≤ 0 := by rw [show z = z - 1 + 1 by omega]; exact nI_p0 (by omega)
    refine aw_iload_n dX5_sum_0 2 rfl ?_
    refine aw_iconst (v := 4) dX5_sum_1 (by decide) ?_
    refine aw_icmp_ltN k 4 11 dX5_sum_2 (by decide) rfl rfl (by omega) (by omega) (fun c1 => absurd c1 (by omega)) (fun c1 => ?_)
    refine aw_iload_n dX5_sum_5 2 rfl ?_
    refine aw_bipush (v := 7) dX5_sum_6 (by decide) ?_
    refine aw_icmp_leN k 7 15 dX5_sum_8 (by decide) rfl rfl (by omega) (by omega) (fun c2 => ?_) (fun c2 => absurd (by omega) c2)
    refine aw_aload_n dX5_sum_15 0 rfl ?_
    refine aw_iload_n dX5_sum_16 1 rfl ?_
    refine aw_callVi [.int (nI t)] [] (sp_X5_primitiveError (d := d - 1) (by omega) (nI t) hT) dX5_sum_17 ml_X5_201 im_X5_primitiveError (hT.s 0 (by decide)) (hT.n 0 (by decide)) rfl rfl (dl1 (d := d) (by omega)) rfl rfl (Nat.le_of_ble_eq_true rfl) rfl rfl (Nat.zero_le _) (Nat.zero_le _) ?_
    refine aw_topE h3 ?_
    refine aw_istore_n [(3, .int 0), (0, .ref 0), (1, .int (nI t)), (2, .int (nI k))] dX5_sum_20 (Nat.le_of_ble_eq_true rfl) rfl ?_
    refine aw_iload_n dX5_sum_21 0 rfl ?_
    refine aw_if_eq 34 dX5_sum_22 (by decide) (fun c3 => ?_) (fun c3 => absurd rfl c3)
    refine aw_aload_n dX5_sum_34 1 rfl ?_
    refine aw_getR (b := 1) dX5_sum_35 fl_X5_11 rfl (hT.s 0 (by decide)) (hT.n 0 (by decide)) (hT.r 0 0 (by decide) (by decide)) ?_
    refine aw_iload_n dX5_sum_38 2 rfl ?_
    refine aw_aaldN t (54 + 3 * t) dX5_sum_39 (hT.s 1 (by decide)) (hT.n 1 (by decide)) rfl (by omega) (by first | decide | omega) (hT.slot (by omega)) ?_
    refine aw_astore [(4, .ref (54 + 3 * t)), (3, .int 0), (0, .ref 0), (1, .int (nI t)), (2, .int (nI k))] dX5_sum_40 (Nat.le_of_ble_eq_true rfl) rfl ?_
    refine aw_aload dX5_sum_42 0 rfl ?_
    refine aw_getI dX5_sum_44 fl_X5_104 (hT.row (t := t) (by omega)).1 (hT.row (t := t) (by omega)).n0 ?_
    refine aw_topE hz ?_
    refine aw_if_le 72 dX5_sum_47 (by decide) (fun c4 => absurd c4 nz) (fun c4 => ?_)
    refine aw_aload dX5_sum_50 0 rfl ?_
    refine aw_getI dX5_sum_52 fl_X5_98 (hT.row (t := t) (by omega)).1 (hT.row (t := t) (by omega)).n0 ?_
    refine aw_topE hk ?_
    refine aw_iload_n dX5_sum_55 4 rfl ?_
    refine aw_callSi [.int (nI b), .int (nI k)] [] (sp_X0_widens (d := d - 1) (by omega) (nI b) (nI k)) dX5_sum_56 ml_X5_167 sm_X0_widens rfl (dl1 (d := d) (by omega)) rfl rfl (Nat.le_of_ble_eq_true rfl) rfl rfl (Nat.zero_le _) (Nat.zero_le _) ?_
    refine aw_if_ne 72 dX5_sum_59 (by decide) (fun c5 => ?_) (fun c5 => absurd c5 (bz_n0.mpr h4))
    refine aw_aload_n dX5_sum_72 2 rfl ?_
    refine aw_iconst (v := 0) dX5_sum_73 (by decide) ?_
    refine aw_iconst (v := -1) dX5_sum_74 (by decide) ?_
    refine aw_callVi [.int 0, .int (-1)] [] (sp_X5_report (d := d - 1) (by omega) 0 (-1) hT) dX5_sum_75 ml_X5_138 im_X5_report (hT.s 0 (by decide)) (hT.n 0 (by decide)) rfl rfl (dl1 (d := d) (by omega)) rfl rfl (Nat.le_of_ble_eq_true rfl) rfl rfl (Nat.zero_le _) (Nat.zero_le _) ?_
    refine aw_pop dX5_sum_78 rfl ?_
    refine aw_iload_n dX5_sum_79 4 rfl ?_
    refine aw_iconst (v := 5) dX5_sum_80 (by decide) ?_
    refine aw_icmp_gtN k 5 93 dX5_sum_81 (by decide) rfl rfl (by omega) (by omega) (fun c6 => ?_) (fun c6 => absurd (by omega) c6)
    refine aw_iload_n dX5_sum_93 4 rfl ?_
    refine aw_bipush (v := 6) dX5_sum_94 (by decide) ?_
    refine aw_icmp_neN k 6 107 dX5_sum_96 (by decide) rfl rfl (by omega) (by omega) (fun c7 => ?_) (fun c7 => absurd c7 (by omega))
    refine aw_aload dX5_sum_107 0 rfl ?_
    refine aw_callSl [.ref (54 + 3 * t)] [] hs dX5_sum_109 ml_X5_212 sm_X5_doubleSum rfl (dl1 (d := d) (by omega)) rfl rfl (Nat.le_of_ble_eq_true rfl) rfl rfl (Nat.zero_le _) (Nat.zero_le _) ?_
    refine aw_lret dX5_sum_112 rfl (Nat.zero_le _) (Nat.zero_le _) ?_
    exact ⟨rfl, rfl⟩
theorem sp_X6_sum_bad {d : Nat} (hd : 4 ≤ d) {M : xM} (x1 x2 : Int32) (hT : TR M) (h : sX6_isThing x1.toInt64 = false ∨ (sX6_isThing x1.toInt64 = true ∧ sX6_isIn x2.toInt64 4 7 = false)) : Sp (fX6_sum d) [.ref 0, .int x1, .int x2] M (dt (some (.long 0)) (tX6_tells M (-1) (-1))) := by
  refine Sp.of pn_X6 (Nat.le_of_ble_eq_true rfl) (fun h => Bool.noConfusion h) ?_
  rcases h with h | ⟨h, h2⟩
  · refine aw_iload_n dX6_sum_0 1 rfl ?_
    refine aw_i2l dX6_sum_1 ?_
    refine aw_callSi [.long (Int32.toInt64 x1)] [] (sp_X6_isThing (d := d - 1) (by omega) (Int32.toInt64 x1) ) dX6_sum_2 ml_X6_159 sm_X6_isThing rfl (dl1 (d := d) (by omega)) rfl rfl (Nat.le_of_ble_eq_true rfl) rfl rfl (Nat.zero_le _) (Nat.zero_le _) ?_
    refine aw_if_eq 22 dX6_sum_5 (by decide) (fun c1 => ?_) (fun c1 => absurd (bz_0.mpr h) c1)
    refine aw_aload_n dX6_sum_22 0 rfl ?_
    refine aw_iconst (v := -1) dX6_sum_23 (by decide) ?_
    refine aw_iconst (v := -1) dX6_sum_24 (by decide) ?_
    refine aw_callVi [.int (-1), .int (-1)] [] (sp_X6_tells (d := d - 1) (by omega) (-1) (-1) hT) dX6_sum_25 ml_X6_192 im_X6_tells (hT.s 0 (by decide)) (hT.n 0 (by decide)) rfl rfl (dl1 (d := d) (by omega)) rfl rfl (Nat.le_of_ble_eq_true rfl) rfl rfl (Nat.zero_le _) (Nat.zero_le _) ?_
    refine aw_pop dX6_sum_28 rfl ?_
    refine aw_lconst (v := 0) dX6_sum_29 (by decide) ?_
    refine aw_lret dX6_sum_30 rfl (Nat.zero_le _) (Nat.zero_le _) ?_
    exact ⟨rfl, rfl⟩
  · refine aw_iload_n dX6_sum_0 1 rfl ?_
    refine aw_i2l dX6_sum_1 ?_
    refine aw_callSi [.long (Int32.toInt64 x1)] [] (sp_X6_isThing (d := d - 1) (by omega) (Int32.toInt64 x1) ) dX6_sum_2 ml_X6_159 sm_X6_isThing rfl (dl1 (d := d) (by omega)) rfl rfl (Nat.le_of_ble_eq_true rfl) rfl rfl (Nat.zero_le _) (Nat.zero_le _) ?_
    refine aw_if_eq 22 dX6_sum_5 (by decide) (fun c1 => absurd c1 (bz_n0.mpr h)) (fun c1 => ?_)
    refine aw_iload_n dX6_sum_8 2 rfl ?_
    refine aw_i2l dX6_sum_9 ?_
    refine aw_ldc2 dX6_sum_10 kc_X6_229 ?_
    refine aw_ldc2 dX6_sum_13 kc_X6_190 ?_
    refine aw_callSi [.long (Int32.toInt64 x2), .long 4, .long 7] [] (sp_X6_isIn (d := d - 1) (by omega) (Int32.toInt64 x2) 4 7 ) dX6_sum_16 ml_X6_73 sm_X6_isIn rfl (dl1 (d := d) (by omega)) rfl rfl (Nat.le_of_ble_eq_true rfl) rfl rfl (Nat.zero_le _) (Nat.zero_le _) ?_
    refine aw_if_ne 31 dX6_sum_19 (by decide) (fun c2 => absurd (bz_0.mpr h2) c2) (fun c2 => ?_)
    refine aw_aload_n dX6_sum_22 0 rfl ?_
    refine aw_iconst (v := -1) dX6_sum_23 (by decide) ?_
    refine aw_iconst (v := -1) dX6_sum_24 (by decide) ?_
    refine aw_callVi [.int (-1), .int (-1)] [] (sp_X6_tells (d := d - 1) (by omega) (-1) (-1) hT) dX6_sum_25 ml_X6_192 im_X6_tells (hT.s 0 (by decide)) (hT.n 0 (by decide)) rfl rfl (dl1 (d := d) (by omega)) rfl rfl (Nat.le_of_ble_eq_true rfl) rfl rfl (Nat.zero_le _) (Nat.zero_le _) ?_
    refine aw_pop dX6_sum_28 rfl ?_
    refine aw_lconst (v := 0) dX6_sum_29 (by decide) ?_
    refine aw_lret dX6_sum_30 rfl (Nat.zero_le _) (Nat.zero_le _) ?_
    exact ⟨rfl, rfl⟩
theorem sp_X6_sum_e {d : Nat} (hd : 4 ≤ d) {M : xM} {t : Nat} (k : Nat) (hT : TR M) (ht : t < 12) (hk8 : k < 8) (h1 : sX6_isThing (lN t) = true) (h2 : sX6_isIn (lN k) 4 7 = true) (e : Int32) (h3 : sX6_refusal M (nI t) = e) (he : e < 0) : Sp (fX6_sum d) [.ref 0, .int (nI t), .int (nI k)] M (dt (some (.long 0)) (tX6_tells M e (-1))) := by
  refine Sp.of pn_X6 (Nat.le_of_ble_eq_true rfl) (fun h => Bool.noConfusion h) ?_
  refine aw_iload_n dX6_sum_0 1 rfl ?_
  refine aw_i2lN t dX6_sum_1 rfl (by omega) ?_
  refine aw_callSi [.long (lN t)] [] (sp_X6_isThing (d := d - 1) (by omega) (lN t) ) dX6_sum_2 ml_X6_159 sm_X6_isThing rfl (dl1 (d := d) (by omega)) rfl rfl (Nat.le_of_ble_eq_true rfl) rfl rfl (Nat.zero_le _) (Nat.zero_le _) ?_
  refine aw_if_eq 22 dX6_sum_5 (by decide) (fun c1 => absurd c1 (bz_n0.mpr h1)) (fun c1 => ?_)
  refine aw_iload_n dX6_sum_8 2 rfl ?_
  refine aw_i2lN k dX6_sum_9 rfl (by omega) ?_
  refine aw_ldc2 dX6_sum_10 kc_X6_229 ?_
  refine aw_ldc2 dX6_sum_13 kc_X6_190 ?_
  refine aw_callSi [.long (lN k), .long 4, .long 7] [] (sp_X6_isIn (d := d - 1) (by omega) (lN k) 4 7 ) dX6_sum_16 ml_X6_73 sm_X6_isIn rfl (dl1 (d := d) (by omega)) rfl rfl (Nat.le_of_ble_eq_true rfl) rfl rfl (Nat.zero_le _) (Nat.zero_le _) ?_
  refine aw_if_ne 31 dX6_sum_19 (by decide) (fun c2 => ?_) (fun c2 => absurd c2 (bz_n0.mpr h2))
  refine aw_aload_n dX6_sum_31 0 rfl ?_
  refine aw_iload_n dX6_sum_32 1 rfl ?_
  refine aw_callVi [.int (nI t)] [] (sp_X6_refusal (d := d - 1) (by omega) (nI t) hT (vp_in_nI (by omega) (by decide))) dX6_sum_33 ml_X6_162 im_X6_refusal (hT.s 0 (by decide)) (hT.n 0 (by decide)) rfl rfl (dl1 (d := d) (by omega)) rfl rfl (Nat.le_of_ble_eq_true rfl) rfl rfl (Nat.zero_le _) (Nat.zero_le _) ?_
  refine aw_topE h3 ?_
  refine aw_istore_n [(3, .int e), (0, .ref 0), (1, .int (nI t)), (2, .int (nI k))] dX6_sum_36 (Nat.le_of_ble_eq_true rfl) rfl ?_
  refine aw_iload_n dX6_sum_37 0 rfl ?_
  refine aw_if_ne 52 dX6_sum_38 (by decide) (fun c3 => ?_) (fun c3 => absurd c3 (fun z => by rw [z] at he; exact absurd he (by decide)))
  refine aw_iload_n dX6_sum_52 0 rfl ?_
  refine aw_if_ge 65 dX6_sum_53 (by decide) (fun c4 => absurd he (Int32.not_lt.mpr c4)) (fun c4 => ?_)
  refine aw_aload_n dX6_sum_56 1 rfl ?_
  refine aw_iload_n dX6_sum_57 0 rfl ?_
  refine aw_iconst (v := -1) dX6_sum_58 (by decide) ?_
  refine aw_callVi [.int e, .int (-1)] [] (sp_X6_tells (d := d - 1) (by omega) e (-1) hT) dX6_sum_59 ml_X6_192 im_X6_tells (hT.s 0 (by decide)) (hT.n 0 (by decide)) rfl rfl (dl1 (d := d) (by omega)) rfl rfl (Nat.le_of_ble_eq_true rfl) rfl rfl (Nat.zero_le _) (Nat.zero_le _) ?_
  refine aw_pop dX6_sum_62 rfl ?_
  refine aw_lconst (v := 0) dX6_sum_63 (by decide) ?_
  refine aw_lret dX6_sum_64 rfl (Nat.zero_le _) (Nat.zero_le _) ?_
  exact ⟨rfl, rfl⟩
theorem sp_X6_sum_o {d : Nat} (hd : 4 ≤ d) {M : xM} {t : Nat} (k : Nat) (hT : TR M) (ht : t < 12) (hk8 : k < 8) (h1 : sX6_isThing (lN t) = true) (h2 : sX6_isIn (lN k) 4 7 = true) (h3 : sX6_refusal M (nI t) = 0) (h4 : sX6_isPlain M (nI t) = false) : Sp (fX6_sum d) [.ref 0, .int (nI t), .int (nI k)] M (dt (some (.long 0)) (tX6_tells M (-7) (-1))) := by
  refine Sp.of pn_X6 (Nat.le_of_ble_eq_true rfl) (fun h => Bool.noConfusion h) ?_
  refine aw_iload_n dX6_sum_0 1 rfl ?_
  refine aw_i2lN t dX6_sum_1 rfl (by omega) ?_
  refine aw_callSi [.long (lN t)] [] (sp_X6_isThing (d := d - 1) (by omega) (lN t) ) dX6_sum_2 ml_X6_159 sm_X6_isThing rfl (dl1 (d := d) (by omega)) rfl rfl (Nat.le_of_ble_eq_true rfl) rfl rfl (Nat.zero_le _) (Nat.zero_le _) ?_
  refine aw_if_eq 22 dX6_sum_5 (by decide) (fun c1 => absurd c1 (bz_n0.mpr h1)) (fun c1 => ?_)
  refine aw_iload_n dX6_sum_8 2 rfl ?_
  refine aw_i2lN k dX6_sum_9 rfl (by omega) ?_
  refine aw_ldc2 dX6_sum_10 kc_X6_229 ?_
  refine aw_ldc2 dX6_sum_13 kc_X6_190 ?_
  refine aw_callSi [.long (lN k), .long 4, .long 7] [] (sp_X6_isIn (d := d - 1) (by omega) (lN k) 4 7 ) dX6_sum_16 ml_X6_73 sm_X6_isIn rfl (dl1 (d := d) (by omega)) rfl rfl (Nat.le_of_ble_eq_true rfl) rfl rfl (Nat.zero_le _) (Nat.zero_le _) ?_
  refine aw_if_ne 31 dX6_sum_19 (by decide) (fun c2 => ?_) (fun c2 => absurd c2 (bz_n0.mpr h2))
  refine aw_aload_n dX6_sum_31 0 rfl ?_
  refine aw_iload_n dX6_sum_32 1 rfl ?_
  refine aw_callVi [.int (nI t)] [] (sp_X6_refusal (d := d - 1) (by omega) (nI t) hT (vp_in_nI (by omega) (by decide))) dX6_sum_33 ml_X6_162 im_X6_refusal (hT.s 0 (by decide)) (hT.n 0 (by decide)) rfl rfl (dl1 (d := d) (by omega)) rfl rfl (Nat.le_of_ble_eq_true rfl) rfl rfl (Nat.zero_le _) (Nat.zero_le _) ?_
  refine aw_topE h3 ?_
  refine aw_istore_n [(3, .int 0), (0, .ref 0), (1, .int (nI t)), (2, .int (nI k))] dX6_sum_36 (Nat.le_of_ble_eq_true rfl) rfl ?_
  refine aw_iload_n dX6_sum_37 0 rfl ?_
  refine aw_if_ne 52 dX6_sum_38 (by decide) (fun c3 => absurd rfl c3) (fun c3 => ?_)
  refine aw_aload_n dX6_sum_41 1 rfl ?_
  refine aw_iload_n dX6_sum_42 2 rfl ?_
  refine aw_callVi [.int (nI t)] [] (sp_X6_isPlain (d := d - 1) (by omega) (nI t) hT (vp_in_nI (by omega) (by decide))) dX6_sum_43 ml_X6_183 im_X6_isPlain (hT.s 0 (by decide)) (hT.n 0 (by decide)) rfl rfl (dl1 (d := d) (by omega)) rfl rfl (Nat.le_of_ble_eq_true rfl) rfl rfl (Nat.zero_le _) (Nat.zero_le _) ?_
  refine aw_if_ne 52 dX6_sum_46 (by decide) (fun c4 => absurd (bz_0.mpr h4) c4) (fun c4 => ?_)
  refine aw_bipush (v := -7) dX6_sum_49 (by decide) ?_
  refine aw_istore_n [(3, .int (-7)), (0, .ref 0), (1, .int (nI t)), (2, .int (nI k))] dX6_sum_51 (Nat.le_of_ble_eq_true rfl) rfl ?_
  refine aw_iload_n dX6_sum_52 0 rfl ?_
  refine aw_if_ge 65 dX6_sum_53 (by decide) (fun c5 => absurd c5 (by decide)) (fun c5 => ?_)
  refine aw_aload_n dX6_sum_56 1 rfl ?_
  refine aw_iload_n dX6_sum_57 0 rfl ?_
  refine aw_iconst (v := -1) dX6_sum_58 (by decide) ?_
  refine aw_callVi [.int (-7), .int (-1)] [] (sp_X6_tells (d := d - 1) (by omega) (-7) (-1) hT) dX6_sum_59 ml_X6_192 im_X6_tells (hT.s 0 (by decide)) (hT.n 0 (by decide)) rfl rfl (dl1 (d := d) (by omega)) rfl rfl (Nat.le_of_ble_eq_true rfl) rfl rfl (Nat.zero_le _) (Nat.zero_le _) ?_
  refine aw_pop dX6_sum_62 rfl ?_
  refine aw_lconst (v := 0) dX6_sum_63 (by decide) ?_
  refine aw_lret dX6_sum_64 rfl (Nat.zero_le _) (Nat.zero_le _) ?_
  exact ⟨rfl, rfl⟩
theorem sp_X6_sum_k {d : Nat} (hd : 4 ≤ d) {M : xM} {t : Nat} (k : Nat) (hT : TR M) (ht : t < 12) (hk8 : k < 8) (h1 : sX6_isThing (lN t) = true) (h2 : sX6_isIn (lN k) 4 7 = true) (h3 : sX6_refusal M (nI t) = 0) (h4 : sX6_isPlain M (nI t) = true) (z b : Nat) (hz : mI M 2 t = nI z) (hz2 : z ≤ 12) (hk : mI M 1 t = nI b) (h0 : 0 < z) (h5 : sX6_turns (nI b) (nI k) = false) : Sp (fX6_sum d) [.ref 0, .int (nI t), .int (nI k)] M (dt (some (.long 0)) (tX6_tells M (-9) 0)) := by
  refine Sp.of pn_X6 (Nat.le_of_ble_eq_true rfl) (fun h => Bool.noConfusion h) ?_
  have nz : ¬ nI z ≤ 0 := by rw [show z = z - 1 + 1 by omega]; exact nI_p0 (by omega)
  refine aw_iload_n dX6_sum_0 1 rfl ?_
  refine aw_i2lN t dX6_sum_1 rfl (by omega) ?_
  refine aw_callSi [.long (lN t)] [] (sp_X6_isThing (d := d - 1) (by omega) (lN t) ) dX6_sum_2 ml_X6_159 sm_X6_isThing rfl (dl1 (d := d) (by omega)) rfl rfl (Nat.le_of_ble_eq_true rfl) rfl rfl (Nat.zero_le _) (Nat.zero_le _) ?_
  refine aw_if_eq 22 dX6_sum_5 (by decide) (fun c1 => absurd c1 (bz_n0.mpr h1)) (fun c1 => ?_)
  refine aw_iload_n dX6_sum_8 2 rfl ?_
  refine aw_i2lN k dX6_sum_9 rfl (by omega) ?_
  refine aw_ldc2 dX6_sum_10 kc_X6_229 ?_
  refine aw_ldc2 dX6_sum_13 kc_X6_190 ?_
  refine aw_callSi [.long (lN k), .long 4, .long 7] [] (sp_X6_isIn (d := d - 1) (by omega) (lN k) 4 7 ) dX6_sum_16 ml_X6_73 sm_X6_isIn rfl (dl1 (d := d) (by omega)) rfl rfl (Nat.le_of_ble_eq_true rfl) rfl rfl (Nat.zero_le _) (Nat.zero_le _) ?_
  refine aw_if_ne 31 dX6_sum_19 (by decide) (fun c2 => ?_) (fun c2 => absurd c2 (bz_n0.mpr h2))
  refine aw_aload_n dX6_sum_31 0 rfl ?_
  refine aw_iload_n dX6_sum_32 1 rfl ?_
  refine aw_callVi [.int (nI t)] [] (sp_X6_refusal (d := d - 1) (by omega) (nI t) hT (vp_in_nI (by omega) (by decide))) dX6_sum_33 ml_X6_162 im_X6_refusal (hT.s 0 (by decide)) (hT.n 0 (by decide)) rfl rfl (dl1 (d := d) (by omega)) rfl rfl (Nat.le_of_ble_eq_true rfl) rfl rfl (Nat.zero_le _) (Nat.zero_le _) ?_
  refine aw_topE h3 ?_
  refine aw_istore_n [(3, .int 0), (0, .ref 0), (1, .int (nI t)), (2, .int (nI k))] dX6_sum_36 (Nat.le_of_ble_eq_true rfl) rfl ?_
  refine aw_iload_n dX6_sum_37 0 rfl ?_
  refine aw_if_ne 52 dX6_sum_38 (by decide) (fun c3 => absurd rfl c3) (fun c3 => ?_)
  refine aw_aload_n dX6_sum_41 1 rfl ?_
  refine aw_iload_n dX6_sum_42 2 rfl ?_
  refine aw_callVi [.int (nI t)] [] (sp_X6_isPlain (d := d - 1) (by omega) (nI t) hT (vp_in_nI (by omega) (by decide))) dX6_sum_43 ml_X6_183 im_X6_isPlain (hT.s 0 (by decide)) (hT.n 0 (by decide)) rfl rfl (dl1 (d := d) (by omega)) rfl rfl (Nat.le_of_ble_eq_true rfl) rfl rfl (Nat.zero_le _) (Nat.zero_le _) ?_
  refine aw_if_ne 52 dX6_sum_46 (by decide) (fun c4 => ?_) (fun c4 => absurd c4 (bz_n0.mpr h4))
  refine aw_iload_n dX6_sum_52 0 rfl ?_
  refine aw_if_ge 65 dX6_sum_53 (by decide) (fun c5 => ?_) (fun c5 => absurd (by decide) c5)
  refine aw_aload_n dX6_sum_65 1 rfl ?_
  refine aw_getR (b := 2) dX6_sum_66 fl_X6_13 rfl (hT.s 0 (by decide)) (hT.n 0 (by decide)) (hT.r 1) ?_
  refine aw_iload_n dX6_sum_69 2 rfl ?_
  refine aw_ialdN t dX6_sum_70 (hT.s 2 (by decide)) (hT.n 2 (by decide)) rfl (by omega) (by first | decide | omega) ?_
  refine aw_topE hz ?_
  refine aw_if_le 97 dX6_sum_71 (by decide) (fun c6 => absurd c6 nz) (fun c6 => ?_)
  refine aw_aload_n dX6_sum_74 1 rfl ?_
  refine aw_getR (b := 1) dX6_sum_75 fl_X6_7 rfl (hT.s 0 (by decide)) (hT.n 0 (by decide)) (hT.r 0) ?_
  refine aw_iload_n dX6_sum_78 2 rfl ?_
  refine aw_ialdN t dX6_sum_79 (hT.s 1 (by decide)) (hT.n 1 (by decide)) rfl (by omega) (by first | decide | omega) ?_
  refine aw_topE hk ?_
  refine aw_iload_n dX6_sum_80 3 rfl ?_
  refine aw_callSi [.int (nI b), .int (nI k)] [] (sp_X6_turns (d := d - 1) (by omega) (nI b) (nI k)) dX6_sum_81 ml_X6_128 sm_X6_turns rfl (dl1 (d := d) (by omega)) rfl rfl (Nat.le_of_ble_eq_true rfl) rfl rfl (Nat.zero_le _) (Nat.zero_le _) ?_
  refine aw_if_ne 97 dX6_sum_84 (by decide) (fun c7 => absurd (bz_0.mpr h5) c7) (fun c7 => ?_)
  refine aw_aload_n dX6_sum_87 1 rfl ?_
  refine aw_bipush (v := -9) dX6_sum_88 (by decide) ?_
  refine aw_iconst (v := 0) dX6_sum_90 (by decide) ?_
  refine aw_callVi [.int (-9), .int 0] [] (sp_X6_tells (d := d - 1) (by omega) (-9) 0 hT) dX6_sum_91 ml_X6_192 im_X6_tells (hT.s 0 (by decide)) (hT.n 0 (by decide)) rfl rfl (dl1 (d := d) (by omega)) rfl rfl (Nat.le_of_ble_eq_true rfl) rfl rfl (Nat.zero_le _) (Nat.zero_le _) ?_
  refine aw_pop dX6_sum_94 rfl ?_
  refine aw_lconst (v := 0) dX6_sum_95 (by decide) ?_
  refine aw_lret dX6_sum_96 rfl (Nat.zero_le _) (Nat.zero_le _) ?_
  exact ⟨rfl, rfl⟩
theorem sp_X6_sum_go {d : Nat} (hd : 4 ≤ d) {M : xM} {t : Nat} (k : Nat) (hT : TR M) (ht : t < 12) (hk8 : k < 8) (h1 : sX6_isThing (lN t) = true) (h2 : sX6_isIn (lN k) 4 7 = true) (h3 : sX6_refusal M (nI t) = 0) (h4 : sX6_isPlain M (nI t) = true) (z b : Nat) (hz : mI M 2 t = nI z) (hz2 : z ≤ 12) (hk : mI M 1 t = nI b)  (h5 : z = 0 ∨ (0 < z ∧ sX6_turns (nI b) (nI k) = true)) {r : Int64} (hs : Sp (fX6_added (d - 1)) [.ref 0, .int (nI t), .int (nI k)] (tX6_tells M 0 (-1)) (dt (some (.long r)) (tX6_tells M 0 (-1)))) : Sp (fX6_sum d) [.ref 0, .int (nI t), .int (nI k)] M (dt (some (.long r)) (tX6_tells M 0 (-1))) := by
  refine Sp.of pn_X6 (Nat.le_of_ble_eq_true rfl) (fun h => Bool.noConfusion h) ?_
  rcases h5 with h5 | ⟨h0, h5⟩
  · have nz : nI z ≤ 0 := by rw [h5]; decide
    refine aw_iload_n dX6_sum_0 1 rfl ?_
    refine aw_i2lN t dX6_sum_1 rfl (by omega) ?_
    refine aw_callSi [.long (lN t)] [] (sp_X6_isThing (d := d - 1) (by omega) (lN t) ) dX6_sum_2 ml_X6_159 sm_X6_isThing rfl (dl1 (d := d) (by omega)) rfl rfl (Nat.le_of_ble_eq_true rfl) rfl rfl (Nat.zero_le _) (Nat.zero_le _) ?_
    refine aw_if_eq 22 dX6_sum_5 (by decide) (fun c1 => absurd c1 (bz_n0.mpr h1)) (fun c1 => ?_)
    refine aw_iload_n dX6_sum_8 2 rfl ?_
    refine aw_i2lN k dX6_sum_9 rfl (by omega) ?_
    refine aw_ldc2 dX6_sum_10 kc_X6_229 ?_
    refine aw_ldc2 dX6_sum_13 kc_X6_190 ?_
    refine aw_callSi [.long (lN k), .long 4, .long 7] [] (sp_X6_isIn (d := d - 1) (by omega) (lN k) 4 7 ) dX6_sum_16 ml_X6_73 sm_X6_isIn rfl (dl1 (d := d) (by omega)) rfl rfl (Nat.le_of_ble_eq_true rfl) rfl rfl (Nat.zero_le _) (Nat.zero_le _) ?_
    refine aw_if_ne 31 dX6_sum_19 (by decide) (fun c2 => ?_) (fun c2 => absurd c2 (bz_n0.mpr h2))
    refine aw_aload_n dX6_sum_31 0 rfl ?_
    refine aw_iload_n dX6_sum_32 1 rfl ?_
    refine aw_callVi [.int (nI t)] [] (sp_X6_refusal (d := d - 1) (by omega) (nI t) hT (vp_in_nI (by omega) (by decide))) dX6_sum_33 ml_X6_162 im_X6_refusal (hT.s 0 (by decide)) (hT.n 0 (by decide)) rfl rfl (dl1 (d := d) (by omega)) rfl rfl (Nat.le_of_ble_eq_true rfl) rfl rfl (Nat.zero_le _) (Nat.zero_le _) ?_
    refine aw_topE h3 ?_
    refine aw_istore_n [(3, .int 0), (0, .ref 0), (1, .int (nI t)), (2, .int (nI k))] dX6_sum_36 (Nat.le_of_ble_eq_true rfl) rfl ?_
    refine aw_iload_n dX6_sum_37 0 rfl ?_
    refine aw_if_ne 52 dX6_sum_38 (by decide) (fun c3 => absurd rfl c3) (fun c3 => ?_)
    refine aw_aload_n dX6_sum_41 1 rfl ?_
    refine aw_iload_n dX6_sum_42 2 rfl ?_
    refine aw_callVi [.int (nI t)] [] (sp_X6_isPlain (d := d - 1) (by omega) (nI t) hT (vp_in_nI (by omega) (by decide))) dX6_sum_43 ml_X6_183 im_X6_isPlain (hT.s 0 (by decide)) (hT.n 0 (by decide)) rfl rfl (dl1 (d := d) (by omega)) rfl rfl (Nat.le_of_ble_eq_true rfl) rfl rfl (Nat.zero_le _) (Nat.zero_le _) ?_
    refine aw_if_ne 52 dX6_sum_46 (by decide) (fun c4 => ?_) (fun c4 => absurd c4 (bz_n0.mpr h4))
    refine aw_iload_n dX6_sum_52 0 rfl ?_
    refine aw_if_ge 65 dX6_sum_53 (by decide) (fun c5 => ?_) (fun c5 => absurd (by decide) c5)
    refine aw_aload_n dX6_sum_65 1 rfl ?_
    refine aw_getR (b := 2) dX6_sum_66 fl_X6_13 rfl (hT.s 0 (by decide)) (hT.n 0 (by decide)) (hT.r 1) ?_
    refine aw_iload_n dX6_sum_69 2 rfl ?_
    refine aw_ialdN t dX6_sum_70 (hT.s 2 (by decide)) (hT.n 2 (by decide)) rfl (by omega) (by first | decide | omega) ?_
    refine aw_topE hz ?_
    refine aw_if_le 97 dX6_sum_71 (by decide) (fun c6 => ?_) (fun c6 => absurd nz c6)
    refine aw_aload_n dX6_sum_97 1 rfl ?_
    refine aw_iconst (v := 0) dX6_sum_98 (by decide) ?_
    refine aw_iconst (v := -1) dX6_sum_99 (by decide) ?_
    refine aw_callVi [.int 0, .int (-1)] [] (sp_X6_tells (d := d - 1) (by omega) 0 (-1) hT) dX6_sum_100 ml_X6_192 im_X6_tells (hT.s 0 (by decide)) (hT.n 0 (by decide)) rfl rfl (dl1 (d := d) (by omega)) rfl rfl (Nat.le_of_ble_eq_true rfl) rfl rfl (Nat.zero_le _) (Nat.zero_le _) ?_
    refine aw_pop dX6_sum_103 rfl ?_
    refine aw_aload_n dX6_sum_104 1 rfl ?_
    refine aw_iload_n dX6_sum_105 2 rfl ?_
    refine aw_iload_n dX6_sum_106 3 rfl ?_
    refine aw_callVl [.int (nI t), .int (nI k)] [] hs dX6_sum_107 ml_X6_231 im_X6_added (((sT_X6_tells M 0 (-1)).TR hT).s 0 (by decide)) (((sT_X6_tells M 0 (-1)).TR hT).n 0 (by decide)) rfl rfl (dl1 (d := d) (by omega)) rfl rfl (Nat.le_of_ble_eq_true rfl) rfl rfl (Nat.zero_le _) (Nat.zero_le _) ?_
    refine aw_lret dX6_sum_110 rfl (Nat.zero_le _) (Nat.zero_le _) ?_
    exact ⟨rfl, rfl⟩
  · have nz : ¬ nI z ≤ 0 := by rw [show z = z - 1 + 1 by omega]; exact nI_p0 (by omega)
    refine aw_iload_n dX6_sum_0 1 rfl ?_
    refine aw_i2lN t dX6_sum_1 rfl (by omega) ?_
    refine aw_callSi [.long (lN t)] [] (sp_X6_isThing (d := d - 1) (by omega) (lN t) ) dX6_sum_2 ml_X6_159 sm_X6_isThing rfl (dl1 (d := d) (by omega)) rfl rfl (Nat.le_of_ble_eq_true rfl) rfl rfl (Nat.zero_le _) (Nat.zero_le _) ?_
    refine aw_if_eq 22 dX6_sum_5 (by decide) (fun c1 => absurd c1 (bz_n0.mpr h1)) (fun c1 => ?_)
    refine aw_iload_n dX6_sum_8 2 rfl ?_
    refine aw_i2lN k dX6_sum_9 rfl (by omega) ?_
    refine aw_ldc2 dX6_sum_10 kc_X6_229 ?_
    refine aw_ldc2 dX6_sum_13 kc_X6_190 ?_
    refine aw_callSi [.long (lN k), .long 4, .long 7] [] (sp_X6_isIn (d := d - 1) (by omega) (lN k) 4 7 ) dX6_sum_16 ml_X6_73 sm_X6_isIn rfl (dl1 (d := d) (by omega)) rfl rfl (Nat.le_of_ble_eq_true rfl) rfl rfl (Nat.zero_le _) (Nat.zero_le _) ?_
    refine aw_if_ne 31 dX6_sum_19 (by decide) (fun c2 => ?_) (fun c2 => absurd c2 (bz_n0.mpr h2))
    refine aw_aload_n dX6_sum_31 0 rfl ?_
    refine aw_iload_n dX6_sum_32 1 rfl ?_
    refine aw_callVi [.int (nI t)] [] (sp_X6_refusal (d := d - 1) (by omega) (nI t) hT (vp_in_nI (by omega) (by decide))) dX6_sum_33 ml_X6_162 im_X6_refusal (hT.s 0 (by decide)) (hT.n 0 (by decide)) rfl rfl (dl1 (d := d) (by omega)) rfl rfl (Nat.le_of_ble_eq_true rfl) rfl rfl (Nat.zero_le _) (Nat.zero_le _) ?_
    refine aw_topE h3 ?_
    refine aw_istore_n [(3, .int 0), (0, .ref 0), (1, .int (nI t)), (2, .int (nI k))] dX6_sum_36 (Nat.le_of_ble_eq_true rfl) rfl ?_
    refine aw_iload_n dX6_sum_37 0 rfl ?_
    refine aw_if_ne 52 dX6_sum_38 (by decide) (fun c3 => absurd rfl c3) (fun c3 => ?_)
    refine aw_aload_n dX6_sum_41 1 rfl ?_
    refine aw_iload_n dX6_sum_42 2 rfl ?_
    refine aw_callVi [.int (nI t)] [] (sp_X6_isPlain (d := d - 1) (by omega) (nI t) hT (vp_in_nI (by omega) (by decide))) dX6_sum_43 ml_X6_183 im_X6_isPlain (hT.s 0 (by decide)) (hT.n 0 (by decide)) rfl rfl (dl1 (d := d) (by omega)) rfl rfl (Nat.le_of_ble_eq_true rfl) rfl rfl (Nat.zero_le _) (Nat.zero_le _) ?_
    refine aw_if_ne 52 dX6_sum_46 (by decide) (fun c4 => ?_) (fun c4 => absurd c4 (bz_n0.mpr h4))
    refine aw_iload_n dX6_sum_52 0 rfl ?_
    refine aw_if_ge 65 dX6_sum_53 (by decide) (fun c5 => ?_) (fun c5 => absurd (by decide) c5)
    refine aw_aload_n dX6_sum_65 1 rfl ?_
    refine aw_getR (b := 2) dX6_sum_66 fl_X6_13 rfl (hT.s 0 (by decide)) (hT.n 0 (by decide)) (hT.r 1) ?_
    refine aw_iload_n dX6_sum_69 2 rfl ?_
    refine aw_ialdN t dX6_sum_70 (hT.s 2 (by decide)) (hT.n 2 (by decide)) rfl (by omega) (by first | decide | omega) ?_
    refine aw_topE hz ?_
    refine aw_if_le 97 dX6_sum_71 (by decide) (fun c6 => absurd c6 nz) (fun c6 => ?_)
    refine aw_aload_n dX6_sum_74 1 rfl ?_
    refine aw_getR (b := 1) dX6_sum_75 fl_X6_7 rfl (hT.s 0 (by decide)) (hT.n 0 (by decide)) (hT.r 0) ?_
    refine aw_iload_n dX6_sum_78 2 rfl ?_
    refine aw_ialdN t dX6_sum_79 (hT.s 1 (by decide)) (hT.n 1 (by decide)) rfl (by omega) (by first | decide | omega) ?_
    refine aw_topE hk ?_
    refine aw_iload_n dX6_sum_80 3 rfl ?_
    refine aw_callSi [.int (nI b), .int (nI k)] [] (sp_X6_turns (d := d - 1) (by omega) (nI b) (nI k)) dX6_sum_81 ml_X6_128 sm_X6_turns rfl (dl1 (d := d) (by omega)) rfl rfl (Nat.le_of_ble_eq_true rfl) rfl rfl (Nat.zero_le _) (Nat.zero_le _) ?_
    refine aw_if_ne 97 dX6_sum_84 (by decide) (fun c7 => ?_) (fun c7 => absurd c7 (bz_n0.mpr h5))
    refine aw_aload_n dX6_sum_97 1 rfl ?_
    refine aw_iconst (v := 0) dX6_sum_98 (by decide) ?_
    refine aw_iconst (v := -1) dX6_sum_99 (by decide) ?_
    refine aw_callVi [.int 0, .int (-1)] [] (sp_X6_tells (d := d - 1) (by omega) 0 (-1) hT) dX6_sum_100 ml_X6_192 im_X6_tells (hT.s 0 (by decide)) (hT.n 0 (by decide)) rfl rfl (dl1 (d := d) (by omega)) rfl rfl (Nat.le_of_ble_eq_true rfl) rfl rfl (Nat.zero_le _) (Nat.zero_le _) ?_
    refine aw_pop dX6_sum_103 rfl ?_
    refine aw_aload_n dX6_sum_104 1 rfl ?_
    refine aw_iload_n dX6_sum_105 2 rfl ?_
    refine aw_iload_n dX6_sum_106 3 rfl ?_
    refine aw_callVl [.int (nI t), .int (nI k)] [] hs dX6_sum_107 ml_X6_231 im_X6_added (((sT_X6_tells M 0 (-1)).TR hT).s 0 (by decide)) (((sT_X6_tells M 0 (-1)).TR hT).n 0 (by decide)) rfl rfl (dl1 (d := d) (by omega)) rfl rfl (Nat.le_of_ble_eq_true rfl) rfl rfl (Nat.zero_le _) (Nat.zero_le _) ?_
    refine aw_lret dX6_sum_110 rfl (Nat.zero_le _) (Nat.zero_le _) ?_
    exact ⟨rfl, rfl⟩
