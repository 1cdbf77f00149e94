-- CONSTRUCTORS
section CO
variable {F G : xF} {cs ss : Nat} {pc : Nat} {M M' : xM} {post post' : Option Value → xM → Prop} {st : List Value} {lv : List (Nat × Value)}
theorem aw_eqm (h : M = M') (k : AW F pc lv st M' cs ss post) : AW F pc lv st M cs ss post := by rw [h]; exact k
theorem aw_refn {a : Nat} (n : Nat) (h : a = n) (k : AW F pc lv (.ref n :: st) M cs ss post) : AW F pc lv (.ref a :: st) M cs ss post := by rw [h]; exact k
theorem aw_csn {cs' ss' : Nat} (h : cs = cs') (h' : ss = ss') (k : AW F pc lv st M cs' ss' post) : AW F pc lv st M cs ss post := by rw [h, h']; exact k
theorem aw_callIv {b i n : Nat} {stk : List Value} (As : List Value) (st : List Value) (hs : Sp G (.ref b :: As) M (dt none M')) (hd : decode F.2.1 pc = .ok (.invokespecial i, 3)) (hl : xML F.1.cls i G.1 G.2.1 G.2.2.1 none n) (hr : G.2.2.2.1 = none) (hi : Cond.instanceMethod G.1 ∈ gt ∧ G.1.name = "<init>") (hbn : b < mN M) (hn : As.length = n) (hdp : G.2.2.2.2.2.2.1 + 1 ≤ F.2.2.2.2.2.2.1) (hal : G.2.2.2.2.2.1 = F.2.2.2.2.2.1) (hst : stk = As.reverse ++ .ref b :: st) (hw : (st.map fun v => v.category).sum ≤ 8) (hk1 : cs + G.2.2.2.2.2.2.2.1 ≤ F.2.2.2.2.2.2.2.1) (hk2 : ss + G.2.2.2.2.2.2.2.2 ≤ F.2.2.2.2.2.2.2.2)
    (k : AW F (pc + 3) lv st M' (cs + G.2.2.2.2.2.2.2.1) (ss + G.2.2.2.2.2.2.2.2) post) : AW F pc lv stk M cs ss post := by
  refine aw_callI As st hs hd hl hr hi hbn hn hdp hal hst hw hk1 hk2 (fun r M2 h => ?_)
  obtain ⟨rfl, rfl⟩ := h
  exact k
theorem aw_callINv {b i : Nat} (st : List Value) (hs : Sp G [.ref b] M (dt none M')) (hy : G.1 = yX2_init) (hq : (F.1.cls = RX1 ∧ i = 35) ∨ (F.1.cls = RX5 ∧ i = 77)) (hd : decode F.2.1 pc = .ok (.invokespecial i, 3)) (l2 : Cond.initialized G.1.cls ∈ gt) (l3 : Cond.code G.1 G.2.1 G.2.2.1 none ∈ gt) (l5 : G.2.2.1 ≤ 45) (hr : G.2.2.2.1 = none) (hi : Cond.instanceMethod G.1 ∈ gt) (hbn : b < mN M) (hdp : G.2.2.2.2.2.2.1 + 1 ≤ F.2.2.2.2.2.2.1) (hal : G.2.2.2.2.2.1 = F.2.2.2.2.2.1) (hw : (st.map fun v => v.category).sum ≤ 8) (hk1 : cs + G.2.2.2.2.2.2.2.1 ≤ F.2.2.2.2.2.2.2.1) (hk2 : ss + G.2.2.2.2.2.2.2.2 ≤ F.2.2.2.2.2.2.2.2)
    (k : AW F (pc + 3) lv st M' (cs + G.2.2.2.2.2.2.2.1) (ss + G.2.2.2.2.2.2.2.2) post) : AW F pc lv (.ref b :: st) M cs ss post := by
  refine aw_callIN st hs hy hq hd l2 l3 l5 hr hi hbn hdp hal hw hk1 hk2 (fun r M2 h => ?_)
  obtain ⟨rfl, rfl⟩ := h
  exact k
end CO
def rowM (M : xM) (b : Nat) : xM := stR (nwM (stR (nwM (stI (stI M b 0 (-1)) b 1 0) (1, 12)) b 2 (some (mN M))) (2, 12)) b 3 (some (mN M + 1))
def strM (M : xM) (b n : Nat) : xM := stR (nwM (stI M b 1 0) (1, n)) b 0 (some (mN M))
def wriM (M : xM) (b r o : Nat) : xM := stR (stR (stI (stI (stR (nwM M (1, 12)) b 2 (some (mN M))) b 3 0) b 4 0) b 0 (some r)) b 1 (some o)
theorem sp_X2_init {d : Nat} (hd : 1 ≤ d) {M : xM} {b : Nat} (hS : mS M b = (0, 1)) (hb : b < mN M) (hN : mN M < 999000) : Sp (fX2_init d) [.ref b] M (dt none (rowM M b)) := by
  refine Sp.of pn_X2 (Nat.le_of_ble_eq_true rfl) (fun _ => rfl) ?_
  have hn0 : b ≠ mN M := by omega
  have hn1 : b ≠ mN M + 1 := by omega
  refine aw_aload_n dX2_init_0 0 rfl ?_
  refine aw_objInit dX2_init_1 oi_X2_3 oi_1 oi_2 hd (Nat.le_of_ble_eq_true rfl) ?_
  refine aw_aload_n dX2_init_4 0 rfl ?_
  refine aw_iconst (v := -1) dX2_init_5 (by decide) ?_
  refine aw_putI dX2_init_6 fl_X2_9 (Or.inl rfl) hS hb ?_
  refine aw_aload_n dX2_init_9 0 rfl ?_
  refine aw_iconst (v := 0) dX2_init_10 (by decide) ?_
  refine aw_putI dX2_init_11 fl_X2_15 (Or.inl rfl) hS hb ?_
  refine aw_aload_n dX2_init_14 0 rfl ?_
  refine aw_bipush (v := 12) dX2_init_15 (by decide) ?_
  refine aw_newI (N := 12) rfl dX2_init_17 ar_int (by decide) rfl (by decide) (Nat.le_of_ble_eq_true rfl) (Nat.le_of_ble_eq_true rfl) (show mN M < 1000000 by omega) ?_
  refine aw_csn (cs' := 1) (ss' := 12) rfl rfl ?_
  refine aw_putR dX2_init_19 fl_X2_18 rfl (Or.inr ⟨rfl, rfl⟩) ((nw_S _ _ hn0).trans hS) (show b < mN M + 1 by omega) ?_
  refine aw_aload_n dX2_init_22 0 rfl ?_
  refine aw_bipush (v := 12) dX2_init_23 (by decide) ?_
  refine aw_newL (N := 12) rfl dX2_init_25 ar_long (by decide) rfl (by decide) (Nat.le_of_ble_eq_true rfl) (Nat.le_of_ble_eq_true rfl) (show mN M + 1 < 1000000 by omega) ?_
  refine aw_csn (cs' := 2) (ss' := 24) rfl rfl ?_
  refine aw_putR dX2_init_27 fl_X2_22 rfl (Or.inr ⟨rfl, rfl⟩) ((nw_S _ _ hn1).trans ((nw_S _ _ hn0).trans hS)) (show b < mN M + 2 by omega) ?_
  refine aw_ret dX2_init_30 rfl (Nat.le_of_ble_eq_true rfl) (Nat.le_of_ble_eq_true rfl) ?_
  exact ⟨rfl, rfl⟩
theorem sp_X3_init {d : Nat} (hd : 1 ≤ d) {M : xM} {b n : Nat} (hS : mS M b = (0, 2)) (hb : b < mN M) (hN : mN M < 999000) (hn : n ≤ 1464) : Sp (fX3_init d) [.ref b, .int (nI n)] M (dt none (strM M b n)) := by
  refine Sp.of pn_X3 (Nat.le_of_ble_eq_true rfl) (fun _ => rfl) ?_
  have hn0 : b ≠ mN M := by omega
  have hn1 : b ≠ mN M + 1 := by omega
  have hz : ¬ nI n < 0 := fun q => absurd (Int32.lt_iff_toInt_lt.mp q) (by rw [nI_toInt (by omega)]; exact Int.not_lt.mpr (Int.natCast_nonneg n))
  have hz2 : (nI n).toNatClampNeg = n := nI_clamp (by omega)
  refine aw_aload_n dX3_init_0 0 rfl ?_
  refine aw_objInit dX3_init_1 oi_X3_3 oi_1 oi_2 hd (Nat.le_of_ble_eq_true rfl) ?_
  refine aw_aload_n dX3_init_4 0 rfl ?_
  refine aw_iconst (v := 0) dX3_init_5 (by decide) ?_
  refine aw_putI dX3_init_6 fl_X3_9 (Or.inl rfl) hS hb ?_
  refine aw_aload_n dX3_init_9 0 rfl ?_
  refine aw_iload_n dX3_init_10 1 rfl ?_
  refine aw_if_ge 18 dX3_init_11 (by decide) (fun c => ?_) (fun c => absurd (Int32.le_iff_toInt_le.mpr (show (0 : Int32).toInt ≤ (nI n).toInt by rw [nI_toInt (by omega)]; exact Int.natCast_nonneg n)) c)
  refine aw_iload_n dX3_init_18 1 rfl ?_
  refine aw_newI (N := n) rfl dX3_init_19 ar_int hz hz2 (by omega) (Nat.le_of_ble_eq_true rfl) (show 0 + n ≤ 1464 by omega) (show mN M < 1000000 by omega) ?_
  refine aw_putR dX3_init_21 fl_X3_15 rfl (Or.inr ⟨rfl, rfl⟩) ((nw_S _ _ hn0).trans hS) (show b < mN M + 1 by omega) ?_
  refine aw_ret dX3_init_24 rfl (Nat.le_of_ble_eq_true rfl) (show 0 + n ≤ 1464 by omega) ?_
  exact ⟨rfl, rfl⟩
theorem sp_X4_init {d : Nat} (hd : 1 ≤ d) {M : xM} {b r o : Nat} (hS : mS M b = (0, 3)) (hb : b < mN M) (hN : mN M < 999000) : Sp (fX4_init d) [.ref b, .ref r, .ref o] M (dt none (wriM M b r o)) := by
  refine Sp.of pn_X4 (Nat.le_of_ble_eq_true rfl) (fun _ => rfl) ?_
  have hn0 : b ≠ mN M := by omega
  have hn1 : b ≠ mN M + 1 := by omega
  refine aw_aload_n dX4_init_0 0 rfl ?_
  refine aw_objInit dX4_init_1 oi_X4_3 oi_1 oi_2 hd (Nat.le_of_ble_eq_true rfl) ?_
  refine aw_aload_n dX4_init_4 0 rfl ?_
  refine aw_bipush (v := 12) dX4_init_5 (by decide) ?_
  refine aw_newI (N := 12) rfl dX4_init_7 ar_int (by decide) rfl (by decide) (Nat.le_of_ble_eq_true rfl) (Nat.le_of_ble_eq_true rfl) (show mN M < 1000000 by omega) ?_
  refine aw_csn (cs' := 1) (ss' := 12) rfl rfl ?_
  refine aw_putR dX4_init_9 fl_X4_9 rfl (Or.inr ⟨rfl, rfl⟩) ((nw_S _ _ hn0).trans hS) (show b < mN M + 1 by omega) ?_
  refine aw_aload_n dX4_init_12 0 rfl ?_
  refine aw_iconst (v := 0) dX4_init_13 (by decide) ?_
  refine aw_putI dX4_init_14 fl_X4_15 (Or.inl rfl) ((nw_S _ _ hn0).trans hS) (show b < mN M + 1 by omega) ?_
  refine aw_aload_n dX4_init_17 0 rfl ?_
  refine aw_iconst (v := 0) dX4_init_18 (by decide) ?_
  refine aw_putI dX4_init_19 fl_X4_19 (Or.inl rfl) ((nw_S _ _ hn0).trans hS) (show b < mN M + 1 by omega) ?_
  refine aw_aload_n dX4_init_22 0 rfl ?_
  refine aw_aload_n dX4_init_23 1 rfl ?_
  refine aw_putR dX4_init_24 fl_X4_22 rfl (Or.inr ⟨rfl, rfl⟩) ((nw_S _ _ hn0).trans hS) (show b < mN M + 1 by omega) ?_
  refine aw_aload_n dX4_init_27 0 rfl ?_
  refine aw_aload_n dX4_init_28 2 rfl ?_
  refine aw_putR dX4_init_29 fl_X4_26 rfl (Or.inr ⟨rfl, rfl⟩) ((nw_S _ _ hn0).trans hS) (show b < mN M + 1 by omega) ?_
  refine aw_ret dX4_init_32 rfl (Nat.le_of_ble_eq_true rfl) (Nat.le_of_ble_eq_true rfl) ?_
  exact ⟨rfl, rfl⟩
def em0 : xM := (fun _ _ => 0, fun _ _ => 0, fun _ _ => none, fun _ => (0, 0), 0)
def kc0 : xM := nwM em0 (0, 4)
def kc1 : xM := nwM kc0 (3, 12)
def kc2 : xM := stR kc1 0 0 (some 1)
def kc3 : xM := nwM kc2 (0, 2)
def kc4 : xM := strM kc3 2 200
def kc5 : xM := stR kc4 0 1 (some 2)
def kc6 : xM := nwM kc5 (0, 2)
def kc7 : xM := strM kc6 4 1464
def kc8 : xM := stR kc7 0 2 (some 4)
def kc9 : xM := nwM kc8 (0, 2)
def kc10 : xM := strM kc9 6 1464
def kc11 : xM := stR kc10 0 3 (some 6)
def kc12 : xM := nwM kc11 (0, 0)
def kr_1 : xM := nwM kc12 (3, 12)
def kr_2 : xM := stR kr_1 8 0 (some 9)
def kr_3 : xM := stI kr_2 8 1 0
def kr_4 : xM := stI kr_3 8 2 0
def kr_5 : xM := stI kr_4 8 3 (-1)
def kr_6 : xM := stL kr_5 8 5 0
def kr_7 : xM := stR kr_6 8 4 (some 2)
def kr12 : Nat → xM
  | 0 => kr_7
  | i + 1 => stR (rowM (nwM (kr12 i) (0, 1)) (mN (kr12 i))) 9 i (some (mN (kr12 i)))
theorem kr12_f : ∀ i, i < 13 → mS (kr12 i) 8 = (0, 0) ∧ mN (kr12 i) = 10 + 3 * i ∧ mR (kr12 i) 8 0 = some 9 ∧ mS (kr12 i) 9 = (3, 12) := by decide +kernel
theorem kr12_g : ∀ i, i < 12 → mS (rowM (nwM (kr12 i) (0, 1)) (mN (kr12 i))) 9 = (3, 12) ∧ mS (rowM (nwM (kr12 i) (0, 1)) (mN (kr12 i))) (10 + 3 * i) = (0, 1) ∧ mN (rowM (nwM (kr12 i) (0, 1)) (mN (kr12 i))) = 13 + 3 * i := by decide +kernel
theorem sp_X1_init {d : Nat} (hd : 2 ≤ d) : Sp (fX1_init d) [.ref 8, .ref 2] kc12 (dt none (kr12 12)) := by
  refine Sp.of pn_X1 (Nat.le_of_ble_eq_true rfl) (fun _ => rfl) ?_
  have loop : ∀ n i : Nat, i + n = 12 → AW (fX1_init d) 40 [(2, .int (nI i)), (0, .ref 8), (1, .ref 2)] [] (kr12 i) (1 + 3 * i) (12 + 28 * i) (dt none (kr12 12)) := by
    intro n
    induction n with
    | zero =>
      intro i hi
      have hi2 : i = 12 := by omega
      subst hi2
      refine aw_iload_n dX1_init_40 0 rfl ?_
      refine aw_bipush (v := 12) dX1_init_41 (by decide) ?_
      refine aw_icmp_geN 12 12 65 dX1_init_43 (by decide) rfl rfl (by omega) (by omega) (fun c => ?_) (fun c => absurd (by omega) c)
      refine aw_ret dX1_init_65 rfl (Nat.le_of_ble_eq_true rfl) (Nat.le_of_ble_eq_true rfl) ?_
      exact ⟨rfl, rfl⟩
    | succ n ih =>
      intro i hi
      obtain ⟨f1, f2, f3, f4⟩ := kr12_f i (by omega)
      obtain ⟨g1, g2, g3⟩ := kr12_g i (by omega)
      have e0 : mS (nwM (kr12 i) (0, 1)) (mN (kr12 i)) = (0, 1) := nw_S0 _ _
      refine aw_iload_n dX1_init_40 0 rfl ?_
      refine aw_bipush (v := 12) dX1_init_41 (by decide) ?_
      refine aw_icmp_geN i 12 65 dX1_init_43 (by decide) rfl rfl (by omega) (by omega) (fun c => absurd c (by omega)) (fun c => ?_)
      refine aw_aload_n dX1_init_46 1 rfl ?_
      refine aw_getR (b := 9) dX1_init_47 fl_X1_11 rfl f1 (by omega) f3 ?_
      refine aw_iload_n dX1_init_50 0 rfl ?_
      refine aw_new (ci := 1) rfl dX1_init_51 rfl (Nat.le_of_ble_eq_true rfl) cl_X1_9 is_X2 in_X2 (show 1 + 3 * i + 1 ≤ 37 by omega) (show 12 + 28 * i + 4 ≤ 348 by omega) (by omega) ?_
      refine aw_dup dX1_init_54 rfl ?_
      refine aw_callINv [.ref (mN (kr12 i)), .int (nI i), .ref 9] (sp_X2_init (d := d - 1) (by omega) e0 (show mN (kr12 i) < mN (kr12 i) + 1 by omega) (show mN (kr12 i) + 1 < 999000 by omega)) rfl (Or.inl ⟨rfl, rfl⟩) dX1_init_55 in_X2 cd_X2_init (Nat.le_of_ble_eq_true rfl) rfl im_X2_init.1 (show mN (kr12 i) < mN (kr12 i) + 1 by omega) (dl1 (d := d) (by omega)) rfl (Nat.le_of_ble_eq_true rfl) (show 1 + 3 * i + 1 + 2 ≤ 37 by omega) (show 12 + 28 * i + 4 + 24 ≤ 348 by omega) ?_
      refine aw_aastN i dX1_init_58 g1 (by omega) rfl (by omega) (by omega) (by rw [f2]; exact g2) (by omega) ?_
      refine aw_iincN i 1 [(2, .int (nI (i + 1))), (0, .ref 8), (1, .ref 2)] dX1_init_59 0 rfl rfl rfl (Nat.le_of_ble_eq_true rfl) rfl ?_
      refine aw_goto 40 dX1_init_62 (by decide) ?_
      refine aw_csn (cs' := 1 + 3 * (i + 1)) (ss' := 12 + 28 * (i + 1)) (show 1 + 3 * i + 1 + 2 = 1 + 3 * (i + 1) by omega) (show 12 + 28 * i + 4 + 24 = 12 + 28 * (i + 1) by omega) ?_
      exact ih (i + 1) (by omega)
  refine aw_aload_n dX1_init_0 0 rfl ?_
  refine aw_objInit dX1_init_1 oi_X1_3 oi_1 oi_2 (show 1 ≤ d by omega) (Nat.le_of_ble_eq_true rfl) ?_
  refine aw_aload_n dX1_init_4 0 rfl ?_
  refine aw_bipush (v := 12) dX1_init_5 (by decide) ?_
  refine aw_newR (N := 12) rfl dX1_init_7 cl_X1_9 (by decide) rfl (by decide) (Nat.le_of_ble_eq_true rfl) (Nat.le_of_ble_eq_true rfl) (by decide +kernel) ?_
  refine aw_eqm (M' := kr_1) rfl ?_
  refine aw_refn 9 (by decide +kernel) ?_
  refine aw_csn (cs' := 1) (ss' := 12) rfl rfl ?_
  refine aw_putR dX1_init_10 fl_X1_11 rfl (Or.inr ⟨rfl, rfl⟩) (by decide +kernel) (by decide +kernel) ?_
  refine aw_eqm (M' := kr_2) rfl ?_
  refine aw_aload_n dX1_init_13 0 rfl ?_
  refine aw_iconst (v := 0) dX1_init_14 (by decide) ?_
  refine aw_putI dX1_init_15 fl_X1_17 (Or.inl rfl) (by decide +kernel) (by decide +kernel) ?_
  refine aw_eqm (M' := kr_3) rfl ?_
  refine aw_aload_n dX1_init_18 0 rfl ?_
  refine aw_iconst (v := 0) dX1_init_19 (by decide) ?_
  refine aw_putI dX1_init_20 fl_X1_21 (Or.inl rfl) (by decide +kernel) (by decide +kernel) ?_
  refine aw_eqm (M' := kr_4) rfl ?_
  refine aw_aload_n dX1_init_23 0 rfl ?_
  refine aw_iconst (v := -1) dX1_init_24 (by decide) ?_
  refine aw_putI dX1_init_25 fl_X1_24 (Or.inl rfl) (by decide +kernel) (by decide +kernel) ?_
  refine aw_eqm (M' := kr_5) rfl ?_
  refine aw_aload_n dX1_init_28 0 rfl ?_
  refine aw_lconst (v := 0) dX1_init_29 (by decide) ?_
  refine aw_putL dX1_init_30 fl_X1_27 (Or.inl rfl) (by decide +kernel) (by decide +kernel) ?_
  refine aw_eqm (M' := kr_6) rfl ?_
  refine aw_aload_n dX1_init_33 0 rfl ?_
  refine aw_aload_n dX1_init_34 1 rfl ?_
  refine aw_putR dX1_init_35 fl_X1_31 rfl (Or.inl rfl) (by decide +kernel) (by decide +kernel) ?_
  refine aw_eqm (M' := kr_7) rfl ?_
  refine aw_iconst (v := 0) dX1_init_38 (by decide) ?_
  refine aw_istore_n [(2, .int 0), (0, .ref 8), (1, .ref 2)] dX1_init_39 (Nat.le_of_ble_eq_true rfl) rfl ?_
  exact loop 12 0 rfl
def kc13 : xM := kr12 12
def kc14 : xM := stR kc13 0 4 (some 8)
def kc15 : xM := nwM kc14 (0, 3)
def kc16 : xM := wriM kc15 46 1 4
def kc17 : xM := stR kc16 0 5 (some 46)
def kc18 : xM := nwM kc17 (0, 3)
def kc19 : xM := wriM kc18 48 1 6
def kc20 : xM := stR kc19 0 6 (some 48)
def kc21 : xM := nwM kc20 (0, 3)
def kc22 : xM := wriM kc21 50 9 6
def kc23 : xM := stR kc22 0 7 (some 50)
def kc24 : xM := nwM kc23 (1, 12)
def kc25 : xM := stR kc24 0 8 (some 52)
def kc26 : xM := nwM kc25 (1, 5)
def kc27 : xM := stR kc26 0 9 (some 53)
def kc28 : xM := stI kc27 0 10 0
def kc29 : xM := stI kc28 0 11 0
def kc30 : xM := stI kc29 0 12 0
def kc31 : xM := stI kc30 0 13 (-1)
def kp12 : Nat → xM
  | 0 => kc31
  | i + 1 => stR (rowM (nwM (kp12 i) (0, 1)) (mN (kp12 i))) 1 i (some (mN (kp12 i)))
theorem kp12_f : ∀ i, i < 13 → mS (kp12 i) 0 = (0, 4) ∧ mN (kp12 i) = 54 + 3 * i ∧ mR (kp12 i) 0 0 = some 1 ∧ mS (kp12 i) 1 = (3, 12) := by decide +kernel
theorem kp12_g : ∀ i, i < 12 → mS (rowM (nwM (kp12 i) (0, 1)) (mN (kp12 i))) 1 = (3, 12) ∧ mS (rowM (nwM (kp12 i) (0, 1)) (mN (kp12 i))) (54 + 3 * i) = (0, 1) ∧ mN (rowM (nwM (kp12 i) (0, 1)) (mN (kp12 i))) = 57 + 3 * i := by decide +kernel
theorem sp_X5_init {d : Nat} (hd : 3 ≤ d) : Sp (fX5_init d) [.ref 0] kc0 (dt none (kp12 12)) := by
  refine Sp.of pn_X5 (Nat.le_of_ble_eq_true rfl) (fun _ => rfl) ?_
  have loop : ∀ n i : Nat, i + n = 12 → AW (fX5_init d) 167 [(1, .int (nI i)), (0, .ref 0)] [] (kp12 i) (53 + 3 * i) (4832 + 28 * i) (dt none (kp12 12)) := by
    intro n
    induction n with
    | zero =>
      intro i hi
      have hi2 : i = 12 := by omega
      subst hi2
      refine aw_iload_n dX5_init_167 0 rfl ?_
      refine aw_bipush (v := 12) dX5_init_168 (by decide) ?_
      refine aw_icmp_geN 12 12 192 dX5_init_170 (by decide) rfl rfl (by omega) (by omega) (fun c => ?_) (fun c => absurd (by omega) c)
      refine aw_ret dX5_init_192 rfl (Nat.le_of_ble_eq_true rfl) (Nat.le_of_ble_eq_true rfl) ?_
      exact ⟨rfl, rfl⟩
    | succ n ih =>
      intro i hi
      obtain ⟨f1, f2, f3, f4⟩ := kp12_f i (by omega)
      obtain ⟨g1, g2, g3⟩ := kp12_g i (by omega)
      have e0 : mS (nwM (kp12 i) (0, 1)) (mN (kp12 i)) = (0, 1) := nw_S0 _ _
      refine aw_iload_n dX5_init_167 0 rfl ?_
      refine aw_bipush (v := 12) dX5_init_168 (by decide) ?_
      refine aw_icmp_geN i 12 192 dX5_init_170 (by decide) rfl rfl (by omega) (by omega) (fun c => absurd c (by omega)) (fun c => ?_)
      refine aw_aload_n dX5_init_173 1 rfl ?_
      refine aw_getR (b := 1) dX5_init_174 fl_X5_11 rfl f1 (by omega) f3 ?_
      refine aw_iload_n dX5_init_177 0 rfl ?_
      refine aw_new (ci := 1) rfl dX5_init_178 rfl (Nat.le_of_ble_eq_true rfl) cl_X5_9 is_X2 in_X2 (show 53 + 3 * i + 1 ≤ 100 by omega) (show 4832 + 28 * i + 4 ≤ 6000 by omega) (by omega) ?_
      refine aw_dup dX5_init_181 rfl ?_
      refine aw_callINv [.ref (mN (kp12 i)), .int (nI i), .ref 1] (sp_X2_init (d := d - 1) (by omega) e0 (show mN (kp12 i) < mN (kp12 i) + 1 by omega) (show mN (kp12 i) + 1 < 999000 by omega)) rfl (Or.inr ⟨rfl, rfl⟩) dX5_init_182 in_X2 cd_X2_init (Nat.le_of_ble_eq_true rfl) rfl im_X2_init.1 (show mN (kp12 i) < mN (kp12 i) + 1 by omega) (dl1 (d := d) (by omega)) rfl (Nat.le_of_ble_eq_true rfl) (show 53 + 3 * i + 1 + 2 ≤ 100 by omega) (show 4832 + 28 * i + 4 + 24 ≤ 6000 by omega) ?_
      refine aw_aastN i dX5_init_185 g1 (by omega) rfl (by omega) (by omega) (by rw [f2]; exact g2) (by omega) ?_
      refine aw_iincN i 1 [(1, .int (nI (i + 1))), (0, .ref 0)] dX5_init_186 0 rfl rfl rfl (Nat.le_of_ble_eq_true rfl) rfl ?_
      refine aw_goto 167 dX5_init_189 (by decide) ?_
      refine aw_csn (cs' := 53 + 3 * (i + 1)) (ss' := 4832 + 28 * (i + 1)) (show 53 + 3 * i + 1 + 2 = 53 + 3 * (i + 1) by omega) (show 4832 + 28 * i + 4 + 24 = 4832 + 28 * (i + 1) by omega) ?_
      exact ih (i + 1) (by omega)
  refine aw_aload_n dX5_init_0 0 rfl ?_
  refine aw_objInit dX5_init_1 oi_X5_3 oi_1 oi_2 (show 1 ≤ d by omega) (Nat.le_of_ble_eq_true rfl) ?_
  refine aw_aload_n dX5_init_4 0 rfl ?_
  refine aw_bipush (v := 12) dX5_init_5 (by decide) ?_
  refine aw_newR (N := 12) rfl dX5_init_7 cl_X5_9 (by decide) rfl (by decide) (Nat.le_of_ble_eq_true rfl) (Nat.le_of_ble_eq_true rfl) (by decide +kernel) ?_
  refine aw_eqm (M' := kc1) rfl ?_
  refine aw_refn 1 (by decide +kernel) ?_
  refine aw_csn (cs' := 1) (ss' := 12) rfl rfl ?_
  refine aw_putR dX5_init_10 fl_X5_11 rfl (Or.inr ⟨rfl, rfl⟩) (by decide +kernel) (by decide +kernel) ?_
  refine aw_eqm (M' := kc2) rfl ?_
  refine aw_aload_n dX5_init_13 0 rfl ?_
  refine aw_new (ci := 2) rfl dX5_init_14 rfl (Nat.le_of_ble_eq_true rfl) cl_X5_15 is_X3 in_X3 (Nat.le_of_ble_eq_true rfl) (Nat.le_of_ble_eq_true rfl) (by decide +kernel) ?_
  refine aw_eqm (M' := kc3) rfl ?_
  refine aw_refn 2 (by decide +kernel) ?_
  refine aw_csn (cs' := 2) (ss' := 14) rfl rfl ?_
  refine aw_dup dX5_init_17 rfl ?_
  refine aw_sipush (v := 200) dX5_init_18 (by decide) ?_
  refine aw_callIv [.int 200] [.ref 2, .ref 0] (sp_X3_init (d := d - 1) (n := 200) (by omega) (by decide +kernel) (by decide +kernel) (by decide +kernel) (by decide)) dX5_init_21 ml_X5_17 rfl im_X3_init (by decide +kernel) rfl (dl1 (d := d) (by omega)) rfl rfl (Nat.le_of_ble_eq_true rfl) (Nat.le_of_ble_eq_true rfl) (Nat.le_of_ble_eq_true rfl) ?_
  refine aw_eqm (M' := kc4) rfl ?_
  refine aw_csn (cs' := 3) (ss' := 1478) rfl rfl ?_
  refine aw_putR dX5_init_24 fl_X5_20 rfl (Or.inr ⟨rfl, rfl⟩) (by decide +kernel) (by decide +kernel) ?_
  refine aw_eqm (M' := kc5) rfl ?_
  refine aw_aload_n dX5_init_27 0 rfl ?_
  refine aw_new (ci := 2) rfl dX5_init_28 rfl (Nat.le_of_ble_eq_true rfl) cl_X5_15 is_X3 in_X3 (Nat.le_of_ble_eq_true rfl) (Nat.le_of_ble_eq_true rfl) (by decide +kernel) ?_
  refine aw_eqm (M' := kc6) rfl ?_
  refine aw_refn 4 (by decide +kernel) ?_
  refine aw_csn (cs' := 4) (ss' := 1480) rfl rfl ?_
  refine aw_dup dX5_init_31 rfl ?_
  refine aw_sipush (v := 1464) dX5_init_32 (by decide) ?_
  refine aw_callIv [.int 1464] [.ref 4, .ref 0] (sp_X3_init (d := d - 1) (n := 1464) (by omega) (by decide +kernel) (by decide +kernel) (by decide +kernel) (by decide)) dX5_init_35 ml_X5_17 rfl im_X3_init (by decide +kernel) rfl (dl1 (d := d) (by omega)) rfl rfl (Nat.le_of_ble_eq_true rfl) (Nat.le_of_ble_eq_true rfl) (Nat.le_of_ble_eq_true rfl) ?_
  refine aw_eqm (M' := kc7) rfl ?_
  refine aw_csn (cs' := 5) (ss' := 2944) rfl rfl ?_
  refine aw_putR dX5_init_38 fl_X5_24 rfl (Or.inr ⟨rfl, rfl⟩) (by decide +kernel) (by decide +kernel) ?_
  refine aw_eqm (M' := kc8) rfl ?_
  refine aw_aload_n dX5_init_41 0 rfl ?_
  refine aw_new (ci := 2) rfl dX5_init_42 rfl (Nat.le_of_ble_eq_true rfl) cl_X5_15 is_X3 in_X3 (Nat.le_of_ble_eq_true rfl) (Nat.le_of_ble_eq_true rfl) (by decide +kernel) ?_
  refine aw_eqm (M' := kc9) rfl ?_
  refine aw_refn 6 (by decide +kernel) ?_
  refine aw_csn (cs' := 6) (ss' := 2946) rfl rfl ?_
  refine aw_dup dX5_init_45 rfl ?_
  refine aw_sipush (v := 1464) dX5_init_46 (by decide) ?_
  refine aw_callIv [.int 1464] [.ref 6, .ref 0] (sp_X3_init (d := d - 1) (n := 1464) (by omega) (by decide +kernel) (by decide +kernel) (by decide +kernel) (by decide)) dX5_init_49 ml_X5_17 rfl im_X3_init (by decide +kernel) rfl (dl1 (d := d) (by omega)) rfl rfl (Nat.le_of_ble_eq_true rfl) (Nat.le_of_ble_eq_true rfl) (Nat.le_of_ble_eq_true rfl) ?_
  refine aw_eqm (M' := kc10) rfl ?_
  refine aw_csn (cs' := 7) (ss' := 4410) rfl rfl ?_
  refine aw_putR dX5_init_52 fl_X5_27 rfl (Or.inr ⟨rfl, rfl⟩) (by decide +kernel) (by decide +kernel) ?_
  refine aw_eqm (M' := kc11) rfl ?_
  refine aw_aload_n dX5_init_55 0 rfl ?_
  refine aw_new (ci := 0) rfl dX5_init_56 rfl (Nat.le_of_ble_eq_true rfl) cl_X5_30 is_X1 in_X1 (Nat.le_of_ble_eq_true rfl) (Nat.le_of_ble_eq_true rfl) (by decide +kernel) ?_
  refine aw_eqm (M' := kc12) rfl ?_
  refine aw_refn 8 (by decide +kernel) ?_
  refine aw_csn (cs' := 8) (ss' := 4416) rfl rfl ?_
  refine aw_dup dX5_init_59 rfl ?_
  refine aw_aload_n dX5_init_60 0 rfl ?_
  refine aw_getR (b := 2) dX5_init_61 fl_X5_20 rfl (by decide +kernel) (by decide +kernel) (by decide +kernel) ?_
  refine aw_callIv [.ref 2] [.ref 8, .ref 0] (sp_X1_init (d := d - 1) (by omega)) dX5_init_64 ml_X5_32 rfl im_X1_init (by decide +kernel) rfl (dl1 (d := d) (by omega)) rfl rfl (Nat.le_of_ble_eq_true rfl) (Nat.le_of_ble_eq_true rfl) (Nat.le_of_ble_eq_true rfl) ?_
  refine aw_eqm (M' := kc13) rfl ?_
  refine aw_csn (cs' := 45) (ss' := 4764) rfl rfl ?_
  refine aw_putR dX5_init_67 fl_X5_35 rfl (Or.inr ⟨rfl, rfl⟩) (by decide +kernel) (by decide +kernel) ?_
  refine aw_eqm (M' := kc14) rfl ?_
  refine aw_aload_n dX5_init_70 0 rfl ?_
  refine aw_new (ci := 3) rfl dX5_init_71 rfl (Nat.le_of_ble_eq_true rfl) cl_X5_39 is_X4 in_X4 (Nat.le_of_ble_eq_true rfl) (Nat.le_of_ble_eq_true rfl) (by decide +kernel) ?_
  refine aw_eqm (M' := kc15) rfl ?_
  refine aw_refn 46 (by decide +kernel) ?_
  refine aw_csn (cs' := 46) (ss' := 4769) rfl rfl ?_
  refine aw_dup dX5_init_74 rfl ?_
  refine aw_aload_n dX5_init_75 0 rfl ?_
  refine aw_getR (b := 1) dX5_init_76 fl_X5_11 rfl (by decide +kernel) (by decide +kernel) (by decide +kernel) ?_
  refine aw_aload_n dX5_init_79 0 rfl ?_
  refine aw_getR (b := 4) dX5_init_80 fl_X5_24 rfl (by decide +kernel) (by decide +kernel) (by decide +kernel) ?_
  refine aw_callIv [.ref 1, .ref 4] [.ref 46, .ref 0] (sp_X4_init (d := d - 1) (by omega) (by decide +kernel) (by decide +kernel) (by decide +kernel)) dX5_init_83 ml_X5_41 rfl im_X4_init (by decide +kernel) rfl (dl1 (d := d) (by omega)) rfl rfl (Nat.le_of_ble_eq_true rfl) (Nat.le_of_ble_eq_true rfl) (Nat.le_of_ble_eq_true rfl) ?_
  refine aw_eqm (M' := kc16) rfl ?_
  refine aw_csn (cs' := 47) (ss' := 4781) rfl rfl ?_
  refine aw_putR dX5_init_86 fl_X5_44 rfl (Or.inr ⟨rfl, rfl⟩) (by decide +kernel) (by decide +kernel) ?_
  refine aw_eqm (M' := kc17) rfl ?_
  refine aw_aload_n dX5_init_89 0 rfl ?_
  refine aw_new (ci := 3) rfl dX5_init_90 rfl (Nat.le_of_ble_eq_true rfl) cl_X5_39 is_X4 in_X4 (Nat.le_of_ble_eq_true rfl) (Nat.le_of_ble_eq_true rfl) (by decide +kernel) ?_
  refine aw_eqm (M' := kc18) rfl ?_
  refine aw_refn 48 (by decide +kernel) ?_
  refine aw_csn (cs' := 48) (ss' := 4786) rfl rfl ?_
  refine aw_dup dX5_init_93 rfl ?_
  refine aw_aload_n dX5_init_94 0 rfl ?_
  refine aw_getR (b := 1) dX5_init_95 fl_X5_11 rfl (by decide +kernel) (by decide +kernel) (by decide +kernel) ?_
  refine aw_aload_n dX5_init_98 0 rfl ?_
  refine aw_getR (b := 6) dX5_init_99 fl_X5_27 rfl (by decide +kernel) (by decide +kernel) (by decide +kernel) ?_
  refine aw_callIv [.ref 1, .ref 6] [.ref 48, .ref 0] (sp_X4_init (d := d - 1) (by omega) (by decide +kernel) (by decide +kernel) (by decide +kernel)) dX5_init_102 ml_X5_41 rfl im_X4_init (by decide +kernel) rfl (dl1 (d := d) (by omega)) rfl rfl (Nat.le_of_ble_eq_true rfl) (Nat.le_of_ble_eq_true rfl) (Nat.le_of_ble_eq_true rfl) ?_
  refine aw_eqm (M' := kc19) rfl ?_
  refine aw_csn (cs' := 49) (ss' := 4798) rfl rfl ?_
  refine aw_putR dX5_init_105 fl_X5_48 rfl (Or.inr ⟨rfl, rfl⟩) (by decide +kernel) (by decide +kernel) ?_
  refine aw_eqm (M' := kc20) rfl ?_
  refine aw_aload_n dX5_init_108 0 rfl ?_
  refine aw_new (ci := 3) rfl dX5_init_109 rfl (Nat.le_of_ble_eq_true rfl) cl_X5_39 is_X4 in_X4 (Nat.le_of_ble_eq_true rfl) (Nat.le_of_ble_eq_true rfl) (by decide +kernel) ?_
  refine aw_eqm (M' := kc21) rfl ?_
  refine aw_refn 50 (by decide +kernel) ?_
  refine aw_csn (cs' := 50) (ss' := 4803) rfl rfl ?_
  refine aw_dup dX5_init_112 rfl ?_
  refine aw_aload_n dX5_init_113 0 rfl ?_
  refine aw_getR (b := 8) dX5_init_114 fl_X5_35 rfl (by decide +kernel) (by decide +kernel) (by decide +kernel) ?_
  refine aw_getR (b := 9) dX5_init_117 fl_X5_51 rfl (by decide +kernel) (by decide +kernel) (by decide +kernel) ?_
  refine aw_aload_n dX5_init_120 0 rfl ?_
  refine aw_getR (b := 6) dX5_init_121 fl_X5_27 rfl (by decide +kernel) (by decide +kernel) (by decide +kernel) ?_
  refine aw_callIv [.ref 9, .ref 6] [.ref 50, .ref 0] (sp_X4_init (d := d - 1) (by omega) (by decide +kernel) (by decide +kernel) (by decide +kernel)) dX5_init_124 ml_X5_41 rfl im_X4_init (by decide +kernel) rfl (dl1 (d := d) (by omega)) rfl rfl (Nat.le_of_ble_eq_true rfl) (Nat.le_of_ble_eq_true rfl) (Nat.le_of_ble_eq_true rfl) ?_
  refine aw_eqm (M' := kc22) rfl ?_
  refine aw_csn (cs' := 51) (ss' := 4815) rfl rfl ?_
  refine aw_putR dX5_init_127 fl_X5_54 rfl (Or.inr ⟨rfl, rfl⟩) (by decide +kernel) (by decide +kernel) ?_
  refine aw_eqm (M' := kc23) rfl ?_
  refine aw_aload_n dX5_init_130 0 rfl ?_
  refine aw_bipush (v := 12) dX5_init_131 (by decide) ?_
  refine aw_newI (N := 12) rfl dX5_init_133 ar_int (by decide) rfl (by decide) (Nat.le_of_ble_eq_true rfl) (Nat.le_of_ble_eq_true rfl) (by decide +kernel) ?_
  refine aw_eqm (M' := kc24) rfl ?_
  refine aw_refn 52 (by decide +kernel) ?_
  refine aw_csn (cs' := 52) (ss' := 4827) rfl rfl ?_
  refine aw_putR dX5_init_135 fl_X5_57 rfl (Or.inr ⟨rfl, rfl⟩) (by decide +kernel) (by decide +kernel) ?_
  refine aw_eqm (M' := kc25) rfl ?_
  refine aw_aload_n dX5_init_138 0 rfl ?_
  refine aw_iconst (v := 5) dX5_init_139 (by decide) ?_
  refine aw_newI (N := 5) rfl dX5_init_140 ar_int (by decide) rfl (by decide) (Nat.le_of_ble_eq_true rfl) (Nat.le_of_ble_eq_true rfl) (by decide +kernel) ?_
  refine aw_eqm (M' := kc26) rfl ?_
  refine aw_refn 53 (by decide +kernel) ?_
  refine aw_csn (cs' := 53) (ss' := 4832) rfl rfl ?_
  refine aw_putR dX5_init_142 fl_X5_61 rfl (Or.inr ⟨rfl, rfl⟩) (by decide +kernel) (by decide +kernel) ?_
  refine aw_eqm (M' := kc27) rfl ?_
  refine aw_aload_n dX5_init_145 0 rfl ?_
  refine aw_iconst (v := 0) dX5_init_146 (by decide) ?_
  refine aw_putI dX5_init_147 fl_X5_64 (Or.inl rfl) (by decide +kernel) (by decide +kernel) ?_
  refine aw_eqm (M' := kc28) rfl ?_
  refine aw_aload_n dX5_init_150 0 rfl ?_
  refine aw_iconst (v := 0) dX5_init_151 (by decide) ?_
  refine aw_putI dX5_init_152 fl_X5_68 (Or.inl rfl) (by decide +kernel) (by decide +kernel) ?_
  refine aw_eqm (M' := kc29) rfl ?_
  refine aw_aload_n dX5_init_155 0 rfl ?_
  refine aw_iconst (v := 0) dX5_init_156 (by decide) ?_
  refine aw_putI dX5_init_157 fl_X5_71 (Or.inl rfl) (by decide +kernel) (by decide +kernel) ?_
  refine aw_eqm (M' := kc30) rfl ?_
  refine aw_aload_n dX5_init_160 0 rfl ?_
  refine aw_iconst (v := -1) dX5_init_161 (by decide) ?_
  refine aw_putI dX5_init_162 fl_X5_74 (Or.inl rfl) (by decide +kernel) (by decide +kernel) ?_
  refine aw_eqm (M' := kc31) rfl ?_
  refine aw_iconst (v := 0) dX5_init_165 (by decide) ?_
  refine aw_istore_n [(1, .int 0), (0, .ref 0)] dX5_init_166 (Nat.le_of_ble_eq_true rfl) rfl ?_
  exact loop 12 0 rfl
