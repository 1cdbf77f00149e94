-- THE CLASS: small methods
def sX5_report (x1 : Int32) (x2 : Int32) : Int32 := x1
def tX5_report (M : xM) (x1 : Int32) (x2 : Int32) : xM := (stI (stI M 0 12 x1) 0 13 x2)
theorem sT_X5_report (M : xM) (x1 : Int32) (x2 : Int32) : sT M (tX5_report M x1 x2) := (((sT.rf M).tr (sT.I _ _ _ _)).tr (sT.I _ _ _ _))
theorem sp_X5_report {d : Nat} (hd : 0 ≤ d) {M : xM} (x1 : Int32) (x2 : Int32) (hT : TC M)  : Sp (fX5_report d) [.ref 0, .int x1, .int x2] M (dt (some (.int (sX5_report x1 x2))) (tX5_report M x1 x2)) := by
  refine Sp.of pn_X5 (Nat.le_of_ble_eq_true rfl) (fun h => Bool.noConfusion h) ?_
  refine aw_aload_n dX5_report_0 0 rfl ?_
  refine aw_iload_n dX5_report_1 1 rfl ?_
  refine aw_putI dX5_report_2 fl_X5_71 (Or.inl rfl) (hT.s 0 (by decide)) (hT.n 0 (by decide)) ?_
  refine aw_aload_n dX5_report_5 0 rfl ?_
  refine aw_iload_n dX5_report_6 2 rfl ?_
  refine aw_putI dX5_report_7 fl_X5_74 (Or.inl rfl) (hT.s 0 (by decide)) (hT.n 0 (by decide)) ?_
  refine aw_iload_n dX5_report_10 1 rfl ?_
  refine aw_iret dX5_report_11 rfl (Nat.zero_le _) (Nat.zero_le _) ?_
  exact ⟨congrArg (fun z => some (Value.int z)) (rfl : x1 = sX5_report x1 x2), (rfl : (stI (stI M 0 12 x1) 0 13 x2) = tX5_report M x1 x2)⟩
theorem cnt_vp {x : Int32} (h1 : ¬ (-5) < x) (h2 : ¬ x < (-9)) : vp_in ((-5) - x) 5 := by
  have a1 : ¬ (-5 : Int) < x.toInt := fun z => h1 (Int32.lt_iff_toInt_lt.mpr z)
  have a2 : ¬ x.toInt < (-9 : Int) := fun z => h2 (Int32.lt_iff_toInt_lt.mpr z)
  rw [vp_in_iff, Int32.toInt_sub]
  have e : (-5 : Int32).toInt = -5 := rfl
  rw [e, Int.bmod_eq_of_le (by omega) (by omega)]
  omega
def tX5_tally (M : xM) (x1 : Int32) : xM := (if (-5) < x1 then M else (if x1 < (-9) then M else (stI M 53 (((-5) - x1).toNatClampNeg) ((mI M 53 (((-5) - x1).toNatClampNeg)) + 1))))
theorem sT_X5_tally (M : xM) (x1 : Int32) : sT M (tX5_tally M x1) := (sT.ite (sT.rf M) (sT.ite (sT.rf M) ((sT.rf M).tr (sT.I _ _ _ _))))
theorem sp_X5_tally {d : Nat} (hd : 0 ≤ d) {M : xM} (x1 : Int32) (hT : TC M)  : Sp (fX5_tally d) [.ref 0, .int x1] M (dt (none) (tX5_tally M x1)) := by
  refine Sp.of pn_X5 (Nat.le_of_ble_eq_true rfl) (fun h => Bool.noConfusion h) ?_
  refine aw_iload_n dX5_tally_0 1 rfl ?_
  refine aw_bipush (v := -5) dX5_tally_1 (by decide) ?_
  refine aw_icmp_gt 25 dX5_tally_3 (by decide) (fun c1 => ?_) (fun c1 => ?_)
  · refine aw_ret dX5_tally_25 rfl (Nat.zero_le _) (Nat.zero_le _) ?_
    exact ⟨rfl, (show tX5_tally M x1 = M by unfold tX5_tally; rw [if_pos c1]).symm⟩
  · refine aw_iload_n dX5_tally_6 1 rfl ?_
    refine aw_bipush (v := -9) dX5_tally_7 (by decide) ?_
    refine aw_icmp_lt 25 dX5_tally_9 (by decide) (fun c2 => ?_) (fun c2 => ?_)
    · refine aw_ret dX5_tally_25 rfl (Nat.zero_le _) (Nat.zero_le _) ?_
      exact ⟨rfl, (show tX5_tally M x1 = M by unfold tX5_tally; rw [if_neg c1, if_pos c2]).symm⟩
    · refine aw_aload_n dX5_tally_12 0 rfl ?_
      refine aw_getR (b := 53) dX5_tally_13 fl_X5_61 rfl (hT.s 0 (by decide)) (hT.n 0 (by decide)) (hT.r 0 9 (by decide) (by decide)) ?_
      refine aw_bipush (v := -5) dX5_tally_16 (by decide) ?_
      refine aw_iload_n dX5_tally_18 1 rfl ?_
      refine aw_isub dX5_tally_19 ?_
      refine aw_dup2_11 dX5_tally_20 rfl rfl ?_
      refine aw_iald dX5_tally_21 (hT.s 53 (by decide)) (hT.n 53 (by decide)) (cnt_vp c1 c2) ?_
      refine aw_iconst (v := 1) dX5_tally_22 (by decide) ?_
      refine aw_iadd dX5_tally_23 ?_
      refine aw_iast dX5_tally_24 (hT.s 53 (by decide)) (hT.n 53 (by decide)) (cnt_vp c1 c2) ?_
      refine aw_ret dX5_tally_25 rfl (Nat.zero_le _) (Nat.zero_le _) ?_
      exact ⟨rfl, (show tX5_tally M x1 = (stI M 53 (((-5) - x1).toNatClampNeg) ((mI M 53 (((-5) - x1).toNatClampNeg)) + 1)) by unfold tX5_tally; rw [if_neg c1, if_neg c2]).symm⟩
def filM (M : xM) (a p : Nat) (x2 : Int32) (x3 : Int64) : xM := stL (stI M (a + 1) p x2) (a + 2) p x3
theorem sT_X2_fill (M : xM) (a p : Nat) (x2 : Int32) (x3 : Int64) : sT M (filM M a p x2 x3) := ⟨rfl, rfl, rfl⟩
theorem sp_X2_fill {d : Nat} (hd : 0 ≤ d) {M : xM} {a : Nat} (p : Nat) (x2 : Int32) (x3 : Int64) (hR : RowAt M a) (hp : p < 12) : Sp (fX2_fill d) [.ref a, .int (nI p), .int x2, .long x3] M (dt none (filM M a p x2 x3)) := by
  refine Sp.of pn_X2 (Nat.le_of_ble_eq_true rfl) (fun h => Bool.noConfusion h) ?_
  refine aw_aload_n dX2_fill_0 0 rfl ?_
  refine aw_getR (b := a + 1) dX2_fill_1 fl_X2_18 rfl hR.1 hR.n0 hR.2.2.2.1 ?_
  refine aw_iload_n dX2_fill_4 1 rfl ?_
  refine aw_iload_n dX2_fill_5 2 rfl ?_
  refine aw_iastN p dX2_fill_6 hR.2.1 hR.n1 rfl (by omega) (by first | decide | omega) ?_
  refine aw_aload_n dX2_fill_7 0 rfl ?_
  refine aw_getR (b := a + 2) dX2_fill_8 fl_X2_22 rfl hR.1 hR.n0 hR.2.2.2.2.1 ?_
  refine aw_iload_n dX2_fill_11 1 rfl ?_
  refine aw_lload_n dX2_fill_12 3 rfl ?_
  refine aw_lastN p dX2_fill_13 hR.2.2.1 hR.n2 rfl (by omega) (by first | decide | omega) ?_
  refine aw_ret dX2_fill_14 rfl (Nat.zero_le _) (Nat.zero_le _) ?_
  exact ⟨rfl, rfl⟩
def tX2_beEmpty (M : xM) (a : Nat)  : xM := (stI (stI M a 0 (-1)) a 1 0)
theorem sT_X2_beEmpty (M : xM) (a : Nat)  : sT M (tX2_beEmpty M a) := (((sT.rf M).tr (sT.I _ _ _ _)).tr (sT.I _ _ _ _))
theorem sp_X2_beEmpty {d : Nat} (hd : 0 ≤ d) {M : xM} {a : Nat}  (hR : RowAt M a)  : Sp (fX2_beEmpty d) [.ref a] M (dt (none) (tX2_beEmpty M a)) := by
  refine Sp.of pn_X2 (Nat.le_of_ble_eq_true rfl) (fun h => Bool.noConfusion h) ?_
  refine aw_aload_n dX2_beEmpty_0 0 rfl ?_
  refine aw_iconst (v := -1) dX2_beEmpty_1 (by decide) ?_
  refine aw_putI dX2_beEmpty_2 fl_X2_9 (Or.inl rfl) hR.1 hR.n0 ?_
  refine aw_aload_n dX2_beEmpty_5 0 rfl ?_
  refine aw_iconst (v := 0) dX2_beEmpty_6 (by decide) ?_
  refine aw_putI dX2_beEmpty_7 fl_X2_15 (Or.inl rfl) hR.1 hR.n0 ?_
  refine aw_ret dX2_beEmpty_10 rfl (Nat.zero_le _) (Nat.zero_le _) ?_
  exact ⟨rfl, (rfl : (stI (stI M a 0 (-1)) a 1 0) = tX2_beEmpty M a)⟩
def tX2_beThing (M : xM) (a : Nat) (x1 : Int32) (x2 : Int64) : xM := (stL (stI (stI M a 0 x1) a 1 0) (a + 2) 0 x2)
theorem sT_X2_beThing (M : xM) (a : Nat) (x1 : Int32) (x2 : Int64) : sT M (tX2_beThing M a x1 x2) := ((((sT.rf M).tr (sT.I _ _ _ _)).tr (sT.I _ _ _ _)).tr (sT.L _ _ _ _))
theorem sp_X2_beThing {d : Nat} (hd : 0 ≤ d) {M : xM} {a : Nat} (x1 : Int32) (x2 : Int64) (hR : RowAt M a)  : Sp (fX2_beThing d) [.ref a, .int x1, .long x2] M (dt (none) (tX2_beThing M a x1 x2)) := by
  refine Sp.of pn_X2 (Nat.le_of_ble_eq_true rfl) (fun h => Bool.noConfusion h) ?_
  refine aw_aload_n dX2_beThing_0 0 rfl ?_
  refine aw_iload_n dX2_beThing_1 1 rfl ?_
  refine aw_putI dX2_beThing_2 fl_X2_9 (Or.inl rfl) hR.1 hR.n0 ?_
  refine aw_aload_n dX2_beThing_5 0 rfl ?_
  refine aw_iconst (v := 0) dX2_beThing_6 (by decide) ?_
  refine aw_putI dX2_beThing_7 fl_X2_15 (Or.inl rfl) hR.1 hR.n0 ?_
  refine aw_aload_n dX2_beThing_10 0 rfl ?_
  refine aw_getR (b := a + 2) dX2_beThing_11 fl_X2_22 rfl hR.1 hR.n0 hR.2.2.2.2.1 ?_
  refine aw_iconst (v := 0) dX2_beThing_14 (by decide) ?_
  refine aw_lload_n dX2_beThing_15 2 rfl ?_
  refine aw_lastN 0 dX2_beThing_16 hR.2.2.1 hR.n2 rfl (by omega) (by first | decide | omega) ?_
  refine aw_ret dX2_beThing_17 rfl (Nat.zero_le _) (Nat.zero_le _) ?_
  exact ⟨rfl, (rfl : (stL (stI (stI M a 0 x1) a 1 0) (a + 2) 0 x2) = tX2_beThing M a x1 x2)⟩
def beaM (M : xM) (a : Nat) (x1 : Int32) (z : Nat) : xM := flL (flI (stI (stI M a 0 x1) a 1 (nI z)) (a + 1) 0 z (fun _ => if sX0_isKind x1 = true then x1 else 11)) (a + 2) 0 z (fun _ => 0)
theorem sT_X2_beArray (M : xM) (a : Nat) (x1 : Int32) (z : Nat) : sT M (beaM M a x1 z) := ⟨rfl, rfl, rfl⟩
theorem flIL_s0 (M : xM) (a b n : Nat) (g : Nat → Int32) (h : Nat → Int64) {v : Int32} {w : Int64} (hv : v = g n) (hw : w = h n) : stL (stI (flL (flI M a 0 n g) b 0 n h) a n v) b n w = flL (flI M a 0 (n + 1) g) b 0 (n + 1) h := by
  have h := flIL_s M a 0 b 0 n g h hv hw
  rw [Nat.zero_add] at h
  exact h
theorem sp_X2_beArray {d : Nat} (hd : 2 ≤ d) {M : xM} {a : Nat} (x1 : Int32) (z : Nat) (hR : RowAt M a) (hz : z ≤ 12) : Sp (fX2_beArray d) [.ref a, .int x1, .int (nI z)] M (dt none (beaM M a x1 z)) := by
  refine Sp.of pn_X2 (Nat.le_of_ble_eq_true rfl) (fun h => Bool.noConfusion h) ?_
  generalize hM3 : stI (stI M a 0 x1) a 1 (nI z) = M3
  have hR3 : RowAt M3 a := by rw [← hM3]; exact hR
  have hp : sX2_isPrimitive M3 a = sX0_isKind x1 := by unfold sX2_isPrimitive; rw [← hM3, mI_stI_k _ _ (by decide), mI_stI_s]
  have hB : beaM M a x1 z = flL (flI M3 (a + 1) 0 z (fun _ => if sX0_isKind x1 = true then x1 else 11)) (a + 2) 0 z (fun _ => 0) := by rw [← hM3]; rfl
  rw [hB]
  have loop : ∀ (n i : Nat) (w : Int32), i + n = z → w = (if sX0_isKind x1 = true then x1 else 11) → AW (fX2_beArray d) 27 [(4, .int (nI i)), (3, .int w), (0, .ref a), (1, .int x1), (2, .int (nI z))] [] (flL (flI M3 (a + 1) 0 i (fun _ => if sX0_isKind x1 = true then x1 else 11)) (a + 2) 0 i (fun _ => 0)) 0 0 (dt none (flL (flI M3 (a + 1) 0 z (fun _ => if sX0_isKind x1 = true then x1 else 11)) (a + 2) 0 z (fun _ => 0))) := by
    intro n
    induction n with
    | zero =>
      intro i w hi hw
      refine aw_iload dX2_beArray_27 0 rfl ?_
      refine aw_iload_n dX2_beArray_29 4 rfl ?_
      refine aw_icmp_geN i z 47 dX2_beArray_30 (by decide) rfl rfl (by omega) (by omega) (fun c1 => ?_) (fun c1 => absurd (by omega) c1)
      refine aw_ret dX2_beArray_47 rfl (Nat.zero_le _) (Nat.zero_le _) ?_
      obtain rfl : i = z := by omega
      exact ⟨rfl, rfl⟩
    | succ n ih =>
      intro i w hi hw
      refine aw_iload dX2_beArray_27 0 rfl ?_
      refine aw_iload_n dX2_beArray_29 4 rfl ?_
      refine aw_icmp_geN i z 47 dX2_beArray_30 (by decide) rfl rfl (by omega) (by omega) (fun c1 => absurd c1 (by omega)) (fun c1 => ?_)
      refine aw_aload_n dX2_beArray_33 2 rfl ?_
      refine aw_iload dX2_beArray_34 0 rfl ?_
      refine aw_iload_n dX2_beArray_36 1 rfl ?_
      refine aw_lconst (v := 0) dX2_beArray_37 (by decide) ?_
      refine aw_callVv [.int (nI i), .int w, .long 0] [] (sp_X2_fill (d := d - 1) (by omega) i w 0 hR3 (by omega)) dX2_beArray_38 ml_X2_36 im_X2_fill hR3.1 hR3.n0 rfl rfl (dl1 (d := d) (by omega)) rfl rfl (Nat.le_of_ble_eq_true rfl) rfl rfl (Nat.zero_le _) (Nat.zero_le _) ?_
      refine aw_iincN i 1 [(4, .int (nI (i + 1))), (3, .int w), (0, .ref a), (1, .int x1), (2, .int (nI z))] dX2_beArray_41 0 rfl rfl rfl (Nat.le_of_ble_eq_true rfl) rfl ?_
      refine aw_goto 27 dX2_beArray_44 (by decide) ?_
      refine aw_eqM (flIL_s0 M3 (a + 1) (a + 2) i _ _ hw rfl) ?_
      exact ih (i + 1) w (by omega) hw
  refine aw_aload_n dX2_beArray_0 0 rfl ?_
  refine aw_iload_n dX2_beArray_1 1 rfl ?_
  refine aw_putI dX2_beArray_2 fl_X2_9 (Or.inl rfl) hR.1 hR.n0 ?_
  refine aw_aload_n dX2_beArray_5 0 rfl ?_
  refine aw_iload_n dX2_beArray_6 2 rfl ?_
  refine aw_putI dX2_beArray_7 fl_X2_15 (Or.inl rfl) hR.1 hR.n0 ?_
  refine aw_eqM hM3 ?_
  refine aw_aload_n dX2_beArray_10 0 rfl ?_
  refine aw_callVi [] [] (sp_X2_isPrimitive (d := d - 1) (by omega) hR3) dX2_beArray_11 ml_X2_32 im_X2_isPrimitive hR3.1 hR3.n0 rfl rfl (dl1 (d := d) (by omega)) rfl rfl (Nat.le_of_ble_eq_true rfl) rfl rfl (Nat.zero_le _) (Nat.zero_le _) ?_
  refine aw_if_eq 21 dX2_beArray_14 (by decide) (fun c1 => ?_) (fun c1 => ?_)
  · refine aw_bipush (v := 11) dX2_beArray_21 (by decide) ?_
    refine aw_istore_n [(3, .int 11), (0, .ref a), (1, .int x1), (2, .int (nI z))] dX2_beArray_23 (Nat.le_of_ble_eq_true rfl) rfl ?_
    refine aw_iconst (v := 0) dX2_beArray_24 (by decide) ?_
    refine aw_istore [(4, .int 0), (3, .int 11), (0, .ref a), (1, .int x1), (2, .int (nI z))] dX2_beArray_25 (Nat.le_of_ble_eq_true rfl) rfl ?_
    refine aw_eqM (flIL_0 M3 (a + 1) 0 (a + 2) 0 (fun _ => if sX0_isKind x1 = true then x1 else 11) (fun _ => 0)).symm ?_
    exact loop z 0 11 (by omega) (by rw [if_neg (show ¬ sX0_isKind x1 = true by rw [← hp, bz_0.mp c1]; decide)])
  · refine aw_iload_n dX2_beArray_17 1 rfl ?_
    refine aw_goto 23 dX2_beArray_18 (by decide) ?_
    refine aw_istore_n [(3, .int x1), (0, .ref a), (1, .int x1), (2, .int (nI z))] dX2_beArray_23 (Nat.le_of_ble_eq_true rfl) rfl ?_
    refine aw_iconst (v := 0) dX2_beArray_24 (by decide) ?_
    refine aw_istore [(4, .int 0), (3, .int x1), (0, .ref a), (1, .int x1), (2, .int (nI z))] dX2_beArray_25 (Nat.le_of_ble_eq_true rfl) rfl ?_
    refine aw_eqM (flIL_0 M3 (a + 1) 0 (a + 2) 0 (fun _ => if sX0_isKind x1 = true then x1 else 11) (fun _ => 0)).symm ?_
    exact loop z 0 x1 (by omega) (by rw [if_pos (show sX0_isKind x1 = true by rw [← hp]; exact bz_n0.mp c1)])
def tX2_beLike (M : xM) (a : Nat) (b : Nat) : xM := (cpL (cpI (stI (stI M a 0 (mI M b 0)) a 1 (mI (stI M a 0 (mI M b 0)) b 1)) (b + 1) (a + 1) 0 0 12) (b + 2) (a + 2) 0 0 12)
theorem sT_X2_beLike (M : xM) (a : Nat) (b : Nat) : sT M (tX2_beLike M a b) := (((((sT.rf M).tr (sT.I _ _ _ _)).tr (sT.I _ _ _ _)).tr (sT.cpI _ _ _ _ _ _)).tr (sT.cpL _ _ _ _ _ _))
theorem sp_X2_beLike {d : Nat} (hd : 1 ≤ d) {M : xM} {a : Nat} (b : Nat) (hR : RowAt M a) (hQ : RowAt M b) : Sp (fX2_beLike d) [.ref a, .ref b] M (dt (none) (tX2_beLike M a b)) := by
  refine Sp.of pn_X2 (Nat.le_of_ble_eq_true rfl) (fun h => Bool.noConfusion h) ?_
  refine aw_aload_n dX2_beLike_0 0 rfl ?_
  refine aw_aload_n dX2_beLike_1 1 rfl ?_
  refine aw_getI dX2_beLike_2 fl_X2_9 hQ.1 hQ.n0 ?_
  refine aw_putI dX2_beLike_5 fl_X2_9 (Or.inl rfl) hR.1 hR.n0 ?_
  refine aw_aload_n dX2_beLike_8 0 rfl ?_
  refine aw_aload_n dX2_beLike_9 1 rfl ?_
  refine aw_getI dX2_beLike_10 fl_X2_15 hQ.1 hQ.n0 ?_
  refine aw_putI dX2_beLike_13 fl_X2_15 (Or.inl rfl) hR.1 hR.n0 ?_
  refine aw_aload_n dX2_beLike_16 1 rfl ?_
  refine aw_getR (b := b + 1) dX2_beLike_17 fl_X2_18 rfl hQ.1 hQ.n0 hQ.2.2.2.1 ?_
  refine aw_iconst (v := 0) dX2_beLike_20 (by decide) ?_
  refine aw_aload_n dX2_beLike_21 0 rfl ?_
  refine aw_getR (b := a + 1) dX2_beLike_22 fl_X2_18 rfl hR.1 hR.n0 hR.2.2.2.1 ?_
  refine aw_iconst (v := 0) dX2_beLike_25 (by decide) ?_
  refine aw_bipush (v := 12) dX2_beLike_26 (by decide) ?_
  refine aw_copyI rfl dX2_beLike_28 ac_X2_40 ac_1 ac_2 in_J10 hQ.2.1 hQ.n1 hR.2.1 hR.n1 (by decide) (by decide) (by decide) (by decide) (by decide) (show 1 ≤ d by omega) (Nat.le_of_ble_eq_true rfl) ?_
  refine aw_aload_n dX2_beLike_31 1 rfl ?_
  refine aw_getR (b := b + 2) dX2_beLike_32 fl_X2_22 rfl hQ.1 hQ.n0 hQ.2.2.2.2.1 ?_
  refine aw_iconst (v := 0) dX2_beLike_35 (by decide) ?_
  refine aw_aload_n dX2_beLike_36 0 rfl ?_
  refine aw_getR (b := a + 2) dX2_beLike_37 fl_X2_22 rfl hR.1 hR.n0 hR.2.2.2.2.1 ?_
  refine aw_iconst (v := 0) dX2_beLike_40 (by decide) ?_
  refine aw_bipush (v := 12) dX2_beLike_41 (by decide) ?_
  refine aw_copyL rfl dX2_beLike_43 ac_X2_40 ac_1 ac_2 in_J10 hQ.2.2.1 hQ.n2 hR.2.2.1 hR.n2 (by decide) (by decide) (by decide) (by decide) (by decide) (show 1 ≤ d by omega) (Nat.le_of_ble_eq_true rfl) ?_
  refine aw_ret dX2_beLike_46 rfl (Nat.zero_le _) (Nat.zero_le _) ?_
  exact ⟨rfl, (rfl : (cpL (cpI (stI (stI M a 0 (mI M b 0)) a 1 (mI (stI M a 0 (mI M b 0)) b 1)) (b + 1) (a + 1) 0 0 12) (b + 2) (a + 2) 0 0 12) = tX2_beLike M a b)⟩
def excM (M : xM) (a p q : Nat) : xM := filM (filM M a p (mI M (a + 1) q) (mL M (a + 2) q)) a q (mI M (a + 1) p) (mL M (a + 2) p)
theorem sT_X2_exchange (M : xM) (a p q : Nat) : sT M (excM M a p q) := ⟨rfl, rfl, rfl⟩
theorem sp_X2_exchange {d : Nat} (hd : 1 ≤ d) {M : xM} {a : Nat} (p q : Nat) (hR : RowAt M a) (hp : p < 12) (hq : q < 12) : Sp (fX2_exchange d) [.ref a, .int (nI p), .int (nI q)] M (dt none (excM M a p q)) := by
  refine Sp.of pn_X2 (Nat.le_of_ble_eq_true rfl) (fun h => Bool.noConfusion h) ?_
  refine aw_aload_n dX2_exchange_0 0 rfl ?_
  refine aw_getR (b := a + 1) dX2_exchange_1 fl_X2_18 rfl hR.1 hR.n0 hR.2.2.2.1 ?_
  refine aw_iload_n dX2_exchange_4 1 rfl ?_
  refine aw_ialdN p dX2_exchange_5 hR.2.1 hR.n1 rfl (by omega) (by first | decide | omega) ?_
  refine aw_istore_n [(3, .int (mI M (a + 1) p)), (0, .ref a), (1, .int (nI p)), (2, .int (nI q))] dX2_exchange_6 (Nat.le_of_ble_eq_true rfl) rfl ?_
  refine aw_aload_n dX2_exchange_7 1 rfl ?_
  refine aw_getR (b := a + 2) dX2_exchange_8 fl_X2_22 rfl hR.1 hR.n0 hR.2.2.2.2.1 ?_
  refine aw_iload_n dX2_exchange_11 2 rfl ?_
  refine aw_laldN p dX2_exchange_12 hR.2.2.1 hR.n2 rfl (by omega) (by first | decide | omega) ?_
  refine aw_lstore [(4, .long (mL M (a + 2) p)), (3, .int (mI M (a + 1) p)), (0, .ref a), (1, .int (nI p)), (2, .int (nI q))] dX2_exchange_13 (Nat.le_of_ble_eq_true rfl) rfl ?_
  refine aw_aload_n dX2_exchange_15 2 rfl ?_
  refine aw_iload_n dX2_exchange_16 3 rfl ?_
  refine aw_aload_n dX2_exchange_17 2 rfl ?_
  refine aw_getR (b := a + 1) dX2_exchange_18 fl_X2_18 rfl hR.1 hR.n0 hR.2.2.2.1 ?_
  refine aw_iload_n dX2_exchange_21 4 rfl ?_
  refine aw_ialdN q dX2_exchange_22 hR.2.1 hR.n1 rfl (by omega) (by first | decide | omega) ?_
  refine aw_aload_n dX2_exchange_23 2 rfl ?_
  refine aw_getR (b := a + 2) dX2_exchange_24 fl_X2_22 rfl hR.1 hR.n0 hR.2.2.2.2.1 ?_
  refine aw_iload_n dX2_exchange_27 4 rfl ?_
  refine aw_laldN q dX2_exchange_28 hR.2.2.1 hR.n2 rfl (by omega) (by first | decide | omega) ?_
  refine aw_callVv [.int (nI p), .int (mI M (a + 1) q), .long (mL M (a + 2) q)] [] (sp_X2_fill (d := d - 1) (by omega) p (mI M (a + 1) q) (mL M (a + 2) q) hR (by omega)) dX2_exchange_29 ml_X2_36 im_X2_fill hR.1 hR.n0 rfl rfl (dl1 (d := d) (by omega)) rfl rfl (Nat.le_of_ble_eq_true rfl) rfl rfl (Nat.zero_le _) (Nat.zero_le _) ?_
  refine aw_aload_n dX2_exchange_32 2 rfl ?_
  refine aw_iload_n dX2_exchange_33 4 rfl ?_
  refine aw_iload_n dX2_exchange_34 1 rfl ?_
  refine aw_lload dX2_exchange_35 0 rfl ?_
  refine aw_callVv [.int (nI q), .int (mI M (a + 1) p), .long (mL M (a + 2) p)] [] (sp_X2_fill (d := d - 1) (by omega) q (mI M (a + 1) p) (mL M (a + 2) p) ((sT_X2_fill M a p (mI M (a + 1) q) (mL M (a + 2) q)).row hR) (by omega)) dX2_exchange_37 ml_X2_36 im_X2_fill ((sT_X2_fill M a p (mI M (a + 1) q) (mL M (a + 2) q)).row hR).1 ((sT_X2_fill M a p (mI M (a + 1) q) (mL M (a + 2) q)).row hR).n0 rfl rfl (dl1 (d := d) (by omega)) rfl rfl (Nat.le_of_ble_eq_true rfl) rfl rfl (Nat.zero_le _) (Nat.zero_le _) ?_
  refine aw_ret dX2_exchange_40 rfl (Nat.zero_le _) (Nat.zero_le _) ?_
  exact ⟨rfl, rfl⟩
theorem sp_X2_holdsArray {d : Nat} (hd : 0 ≤ d) {M : xM} {a : Nat} (z : Nat) (hR : RowAt M a) (hz : mI M a 1 = nI z) (hz2 : z ≤ 12) : Sp (fX2_holdsArray d) [.ref a] M (dt (some (.int (bz (any (fun k => decide (mI M (a + 1) k = 10)) z 0)))) M) := by
  refine Sp.of pn_X2 (Nat.le_of_ble_eq_true rfl) (fun h => Bool.noConfusion h) ?_
  have loop : ∀ (n i : Nat) , i + n = z → AW (fX2_holdsArray d) 2 [(1, .int (nI i)), (0, .ref a)] [] M 0 0 (dt (some (.int (bz (any (fun k => decide (mI M (a + 1) k = 10)) n i)))) M) := by
    intro n
    induction n with
    | zero =>
      intro i  hi 
      refine aw_iload_n dX2_holdsArray_2 0 rfl ?_
      refine aw_aload_n dX2_holdsArray_3 1 rfl ?_
      refine aw_getI dX2_holdsArray_4 fl_X2_15 hR.1 hR.n0 ?_
      refine aw_topE hz ?_
      refine aw_icmp_geN i z 29 dX2_holdsArray_7 (by decide) rfl rfl (by omega) (by omega) (fun c1 => ?_) (fun c1 => absurd (by omega) c1)
      refine aw_iconst (v := 0) dX2_holdsArray_29 (by decide) ?_
      refine aw_zret dX2_holdsArray_30 rfl rfl (Nat.zero_le _) (Nat.zero_le _) ?_
      exact ⟨rfl, rfl⟩
    | succ n ih =>
      intro i  hi 
      refine aw_iload_n dX2_holdsArray_2 0 rfl ?_
      refine aw_aload_n dX2_holdsArray_3 1 rfl ?_
      refine aw_getI dX2_holdsArray_4 fl_X2_15 hR.1 hR.n0 ?_
      refine aw_topE hz ?_
      refine aw_icmp_geN i z 29 dX2_holdsArray_7 (by decide) rfl rfl (by omega) (by omega) (fun c1 => absurd c1 (by omega)) (fun c1 => ?_)
      refine aw_aload_n dX2_holdsArray_10 1 rfl ?_
      refine aw_getR (b := a + 1) dX2_holdsArray_11 fl_X2_18 rfl hR.1 hR.n0 hR.2.2.2.1 ?_
      refine aw_iload_n dX2_holdsArray_14 0 rfl ?_
      refine aw_ialdN i dX2_holdsArray_15 hR.2.1 hR.n1 rfl (by omega) (by first | decide | omega) ?_
      refine aw_bipush (v := 10) dX2_holdsArray_16 (by decide) ?_
      refine aw_icmp_ne 23 dX2_holdsArray_18 (by decide) (fun c2 => ?_) (fun c2 => ?_)
      · refine aw_iincN i 1 [(1, .int (nI (i + 1))), (0, .ref a)] dX2_holdsArray_23 0 rfl rfl rfl (Nat.le_of_ble_eq_true rfl) rfl ?_
        refine aw_goto 2 dX2_holdsArray_26 (by decide) ?_
        rw [any_f n (show decide (mI M (a + 1) i = 10) = false from decide_eq_false c2)]
        exact ih (i + 1) (by omega)
      · refine aw_iconst (v := 1) dX2_holdsArray_21 (by decide) ?_
        refine aw_zret dX2_holdsArray_22 rfl rfl (Nat.zero_le _) (Nat.zero_le _) ?_
        rw [any_t n (show decide (mI M (a + 1) i = 10) = true from decide_eq_true c2)]
        exact ⟨rfl, rfl⟩
  refine aw_iconst (v := 0) dX2_holdsArray_0 (by decide) ?_
  refine aw_istore_n [(1, .int 0), (0, .ref a)] dX2_holdsArray_1 (Nat.le_of_ble_eq_true rfl) rfl ?_
  exact loop z 0 (by omega)
theorem flL_id (M : xM) (a lo n : Nat) (g : Nat → Int64) (h : g n = mL M a (lo + n)) : flL M a lo (n + 1) g = flL M a lo n g := by
  have e := flL_s M a lo n g (v := g n) rfl
  rw [← e]
  unfold stL
  refine Prod.ext rfl (Prod.ext ?_ rfl)
  funext x y
  show xup (xfl M.2.1 a lo n g) a (lo + n) (g n) x y = xfl M.2.1 a lo n g x y
  unfold xup
  by_cases hx : x = a
  · subst hx
    by_cases hy : y = lo + n
    · subst hy
      rw [if_pos rfl, if_pos rfl, h, xfl_oy _ _ (by omega)]
      rfl
    · rw [if_pos rfl, if_neg hy]
  · rw [if_neg hx]
abbrev relG (M : xM) (a h : Nat) (k : Nat) : Int64 := if mI M (a + 1) k = 10 then (mI M h ((mL M (a + 2) k).toInt32).toNatClampNeg).toInt64 else mL M (a + 2) k
def relM (M : xM) (a h z : Nat) : xM := flL M (a + 2) 0 z (relG M a h)
theorem sT_X2_relink (M : xM) (a h z : Nat) : sT M (relM M a h z) := ⟨rfl, rfl, rfl⟩
theorem sp_X2_relink {d : Nat} (hd : 0 ≤ d) {M : xM} {a : Nat} (h z : Nat) (hR : RowAt M a) (hh : mS M h = (1, 12)) (hhn : h < mN M) (hz : mI M a 1 = nI z) (hz2 : z ≤ 12) (hl : ∀ k, k < z → mI M (a + 1) k = 10 → vp_in (mL M (a + 2) k).toInt32 12) : Sp (fX2_relink d) [.ref a, .ref h] M (dt none (relM M a h z)) := by
  refine Sp.of pn_X2 (Nat.le_of_ble_eq_true rfl) (fun h => Bool.noConfusion h) ?_
  have loop : ∀ (n i : Nat) , i + n = z → AW (fX2_relink d) 2 [(2, .int (nI i)), (0, .ref a), (1, .ref h)] [] (relM M a h i) 0 0 (dt none (relM M a h z)) := by
    intro n
    induction n with
    | zero =>
      intro i  hi 
      refine aw_iload_n dX2_relink_2 0 rfl ?_
      refine aw_aload_n dX2_relink_3 1 rfl ?_
      refine aw_getI dX2_relink_4 fl_X2_15 hR.1 hR.n0 ?_
      refine aw_topE hz ?_
      refine aw_icmp_geN i z 43 dX2_relink_7 (by decide) rfl rfl (by omega) (by omega) (fun c1 => ?_) (fun c1 => absurd (by omega) c1)
      refine aw_ret dX2_relink_43 rfl (Nat.zero_le _) (Nat.zero_le _) ?_
      obtain rfl : i = z := by omega
      exact ⟨rfl, rfl⟩
    | succ n ih =>
      intro i  hi 
      refine aw_iload_n dX2_relink_2 0 rfl ?_
      refine aw_aload_n dX2_relink_3 1 rfl ?_
      refine aw_getI dX2_relink_4 fl_X2_15 hR.1 hR.n0 ?_
      refine aw_topE hz ?_
      refine aw_icmp_geN i z 43 dX2_relink_7 (by decide) rfl rfl (by omega) (by omega) (fun c1 => absurd c1 (by omega)) (fun c1 => ?_)
      refine aw_aload_n dX2_relink_10 1 rfl ?_
      refine aw_getR (b := a + 1) dX2_relink_11 fl_X2_18 rfl hR.1 hR.n0 hR.2.2.2.1 ?_
      refine aw_iload_n dX2_relink_14 0 rfl ?_
      refine aw_ialdN i dX2_relink_15 hR.2.1 hR.n1 rfl (by omega) (by first | decide | omega) ?_
      refine aw_bipush (v := 10) dX2_relink_16 (by decide) ?_
      refine aw_icmp_ne 37 dX2_relink_18 (by decide) (fun c2 => ?_) (fun c2 => ?_)
      · refine aw_iincN i 1 [(2, .int (nI (i + 1))), (0, .ref a), (1, .ref h)] dX2_relink_37 0 rfl rfl rfl (Nat.le_of_ble_eq_true rfl) rfl ?_
        refine aw_goto 2 dX2_relink_40 (by decide) ?_
        refine aw_eqM (flL_id M (a + 2) 0 i (relG M a h) (by rw [Nat.zero_add]; exact if_neg c2)).symm ?_
        exact ih (i + 1) (by omega)
      · refine aw_aload_n dX2_relink_21 1 rfl ?_
        refine aw_getR (b := a + 2) dX2_relink_22 fl_X2_22 rfl hR.1 hR.n0 hR.2.2.2.2.1 ?_
        refine aw_iload_n dX2_relink_25 0 rfl ?_
        refine aw_aload_n dX2_relink_26 2 rfl ?_
        refine aw_aload_n dX2_relink_27 1 rfl ?_
        refine aw_getR (b := a + 2) dX2_relink_28 fl_X2_22 rfl hR.1 hR.n0 hR.2.2.2.2.1 ?_
        refine aw_iload_n dX2_relink_31 0 rfl ?_
        refine aw_laldN i dX2_relink_32 hR.2.2.1 hR.n2 rfl (by omega) (by first | decide | omega) ?_
        refine aw_toplE (show mL (relM M a h i) (a + 2) i = _ by unfold relM; exact mL_flL_oy _ (by omega)) ?_
        refine aw_l2i dX2_relink_33 ?_
        refine aw_iald dX2_relink_34 hh hhn (hl i (by omega) c2) ?_
        refine aw_i2l dX2_relink_35 ?_
        refine aw_lastN i dX2_relink_36 hR.2.2.1 hR.n2 rfl (by omega) (by first | decide | omega) ?_
        refine aw_iincN i 1 [(2, .int (nI (i + 1))), (0, .ref a), (1, .ref h)] dX2_relink_37 0 rfl rfl rfl (Nat.le_of_ble_eq_true rfl) rfl ?_
        refine aw_goto 2 dX2_relink_40 (by decide) ?_
        refine aw_eqM (show _ = relM M a h (i + 1) from ?_) (ih (i + 1) (by omega))
        have e2 := flL_s M (a + 2) 0 i (relG M a h) (v := relG M a h i) rfl
        rw [Nat.zero_add] at e2
        unfold relM
        rw [← e2, show relG M a h i = _ from if_pos c2]
        rfl
  refine aw_iconst (v := 0) dX2_relink_0 (by decide) ?_
  refine aw_istore_n [(2, .int 0), (0, .ref a), (1, .ref h)] dX2_relink_1 (Nat.le_of_ble_eq_true rfl) rfl ?_
  refine aw_eqM (flL_0 M (a + 2) 0 (relG M a h)).symm ?_
  exact loop z 0 (by omega)
abbrev cEmp (M : xM) (t : Nat) : Bool := sX2_isEmpty M (54 + 3 * t)
def sX5_lowestEmpty (M : xM) : Int32 := lst (cEmp M) 12 0
def sX5_filledSlots (M : xM) : Int32 := nI (cnt (fun t => !cEmp M t) 12 0 0)
theorem sp_X5_lowestEmpty {d : Nat} (hd : 1 ≤ d) {M : xM} (hT : TC M) : Sp (fX5_lowestEmpty d) [.ref 0] M (dt (some (.int (sX5_lowestEmpty M))) M) := by
  refine Sp.of pn_X5 (Nat.le_of_ble_eq_true rfl) (fun h => Bool.noConfusion h) ?_
  have loop : ∀ (n i : Nat) , i + n = 12 → AW (fX5_lowestEmpty d) 2 [(1, .int (nI i)), (0, .ref 0)] [] M 0 0 (dt (some (.int (lst (cEmp M) n i))) M) := by
    intro n
    induction n with
    | zero =>
      intro i  hi 
      refine aw_iload_n dX5_lowestEmpty_2 0 rfl ?_
      refine aw_bipush (v := 12) dX5_lowestEmpty_3 (by decide) ?_
      refine aw_icmp_geN i 12 28 dX5_lowestEmpty_5 (by decide) rfl rfl (by omega) (by omega) (fun c1 => ?_) (fun c1 => absurd (by omega) c1)
      refine aw_iconst (v := -1) dX5_lowestEmpty_28 (by decide) ?_
      refine aw_iret dX5_lowestEmpty_29 rfl (Nat.zero_le _) (Nat.zero_le _) ?_
      exact ⟨rfl, rfl⟩
    | succ n ih =>
      intro i  hi 
      refine aw_iload_n dX5_lowestEmpty_2 0 rfl ?_
      refine aw_bipush (v := 12) dX5_lowestEmpty_3 (by decide) ?_
      refine aw_icmp_geN i 12 28 dX5_lowestEmpty_5 (by decide) rfl rfl (by omega) (by omega) (fun c1 => absurd c1 (by omega)) (fun c1 => ?_)
      refine aw_aload_n dX5_lowestEmpty_8 1 rfl ?_
      refine aw_getR (b := 1) dX5_lowestEmpty_9 fl_X5_11 rfl (hT.s 0 (by decide)) (hT.n 0 (by decide)) (hT.r 0 0 (by decide) (by decide)) ?_
      refine aw_iload_n dX5_lowestEmpty_12 0 rfl ?_
      refine aw_aaldN i (54 + 3 * i) dX5_lowestEmpty_13 (hT.s 1 (by decide)) (hT.n 1 (by decide)) rfl (by omega) (by first | decide | omega) (hT.slot (by omega)) ?_
      refine aw_callVi [] [] (sp_X2_isEmpty (d := d - 1) (by omega)  (hT.row (t := i) (by omega))) dX5_lowestEmpty_14 ml_X5_123 im_X2_isEmpty (hT.row (t := i) (by omega)).1 (hT.row (t := i) (by omega)).n0 rfl rfl (dl1 (d := d) (by omega)) rfl rfl (Nat.le_of_ble_eq_true rfl) rfl rfl (Nat.zero_le _) (Nat.zero_le _) ?_
      refine aw_if_eq 22 dX5_lowestEmpty_17 (by decide) (fun c2 => ?_) (fun c2 => ?_)
      · refine aw_iincN i 1 [(1, .int (nI (i + 1))), (0, .ref 0)] dX5_lowestEmpty_22 0 rfl rfl rfl (Nat.le_of_ble_eq_true rfl) rfl ?_
        refine aw_goto 2 dX5_lowestEmpty_25 (by decide) ?_
        rw [lst_f n (show cEmp M i = false from bz_0.mp c2)]
        exact ih (i + 1) (by omega)
      · refine aw_iload_n dX5_lowestEmpty_20 0 rfl ?_
        refine aw_iret dX5_lowestEmpty_21 rfl (Nat.zero_le _) (Nat.zero_le _) ?_
        rw [lst_t n (show cEmp M i = true from bz_n0.mp c2)]
        exact ⟨rfl, rfl⟩
  refine aw_iconst (v := 0) dX5_lowestEmpty_0 (by decide) ?_
  refine aw_istore_n [(1, .int 0), (0, .ref 0)] dX5_lowestEmpty_1 (Nat.le_of_ble_eq_true rfl) rfl ?_
  exact loop 12 0 (by omega)
theorem sp_X5_filledSlots {d : Nat} (hd : 1 ≤ d) {M : xM} (hT : TC M) : Sp (fX5_filledSlots d) [.ref 0] M (dt (some (.int (sX5_filledSlots M))) M) := by
  refine Sp.of pn_X5 (Nat.le_of_ble_eq_true rfl) (fun h => Bool.noConfusion h) ?_
  have loop : ∀ (n i : Nat) (k : Nat), i + n = 12 → AW (fX5_filledSlots d) 4 [(2, .int (nI i)), (1, .int (nI k)), (0, .ref 0)] [] M 0 0 (dt (some (.int (nI (cnt (fun t => !cEmp M t) n i k)))) M) := by
    intro n
    induction n with
    | zero =>
      intro i k hi 
      refine aw_iload_n dX5_filledSlots_4 0 rfl ?_
      refine aw_bipush (v := 12) dX5_filledSlots_5 (by decide) ?_
      refine aw_icmp_geN i 12 31 dX5_filledSlots_7 (by decide) rfl rfl (by omega) (by omega) (fun c1 => ?_) (fun c1 => absurd (by omega) c1)
      refine aw_iload_n dX5_filledSlots_31 1 rfl ?_
      refine aw_iret dX5_filledSlots_32 rfl (Nat.zero_le _) (Nat.zero_le _) ?_
      exact ⟨rfl, rfl⟩
    | succ n ih =>
      intro i k hi 
      refine aw_iload_n dX5_filledSlots_4 0 rfl ?_
      refine aw_bipush (v := 12) dX5_filledSlots_5 (by decide) ?_
      refine aw_icmp_geN i 12 31 dX5_filledSlots_7 (by decide) rfl rfl (by omega) (by omega) (fun c1 => absurd c1 (by omega)) (fun c1 => ?_)
      refine aw_aload_n dX5_filledSlots_10 2 rfl ?_
      refine aw_getR (b := 1) dX5_filledSlots_11 fl_X5_11 rfl (hT.s 0 (by decide)) (hT.n 0 (by decide)) (hT.r 0 0 (by decide) (by decide)) ?_
      refine aw_iload_n dX5_filledSlots_14 0 rfl ?_
      refine aw_aaldN i (54 + 3 * i) dX5_filledSlots_15 (hT.s 1 (by decide)) (hT.n 1 (by decide)) rfl (by omega) (by first | decide | omega) (hT.slot (by omega)) ?_
      refine aw_callVi [] [] (sp_X2_isEmpty (d := d - 1) (by omega)  (hT.row (t := i) (by omega))) dX5_filledSlots_16 ml_X5_123 im_X2_isEmpty (hT.row (t := i) (by omega)).1 (hT.row (t := i) (by omega)).n0 rfl rfl (dl1 (d := d) (by omega)) rfl rfl (Nat.le_of_ble_eq_true rfl) rfl rfl (Nat.zero_le _) (Nat.zero_le _) ?_
      refine aw_if_ne 25 dX5_filledSlots_19 (by decide) (fun c2 => ?_) (fun c2 => ?_)
      · refine aw_iincN i 1 [(2, .int (nI (i + 1))), (1, .int (nI k)), (0, .ref 0)] dX5_filledSlots_25 0 rfl rfl rfl (Nat.le_of_ble_eq_true rfl) rfl ?_
        refine aw_goto 4 dX5_filledSlots_28 (by decide) ?_
        rw [cnt_f n k (show (!cEmp M i) = false by rw [show cEmp M i = true from bz_n0.mp c2]; rfl)]
        exact ih (i + 1) k (by omega)
      · refine aw_iincN k 1 [(1, .int (nI (k + 1))), (2, .int (nI i)), (0, .ref 0)] dX5_filledSlots_22 1 rfl rfl rfl (Nat.le_of_ble_eq_true rfl) rfl ?_
        refine aw_iincN i 1 [(2, .int (nI (i + 1))), (1, .int (nI (k + 1))), (0, .ref 0)] dX5_filledSlots_25 1 rfl rfl rfl (Nat.le_of_ble_eq_true rfl) rfl ?_
        refine aw_goto 4 dX5_filledSlots_28 (by decide) ?_
        rw [cnt_t n k (show (!cEmp M i) = true by rw [show cEmp M i = false from bz_0.mp c2]; rfl)]
        exact ih (i + 1) (k + 1) (by omega)
  refine aw_iconst (v := 0) dX5_filledSlots_0 (by decide) ?_
  refine aw_istore_n [(1, .int 0), (0, .ref 0)] dX5_filledSlots_1 (Nat.le_of_ble_eq_true rfl) rfl ?_
  refine aw_iconst (v := 0) dX5_filledSlots_2 (by decide) ?_
  refine aw_istore_n [(2, .int 0), (1, .int 0), (0, .ref 0)] dX5_filledSlots_3 (Nat.le_of_ble_eq_true rfl) rfl ?_
  exact loop 12 0 0 (by omega)
