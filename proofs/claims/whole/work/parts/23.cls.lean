-- THE CLASS: links
def lkF (M : xM) (a : Nat) : Nat → Nat → Int32 → Int32
  | 0, _, x => x
  | n + 1, i, x => lkF M a n (i + 1) (if mI M (a + 1) i = 10 then x ||| ((1 : Int32) <<< ((mL M (a + 2) i).toInt32 &&& 31)) else x)
theorem lkF_t {M : xM} {a i : Nat} (n : Nat) (x : Int32) (h : mI M (a + 1) i = 10) : lkF M a (n + 1) i x = lkF M a n (i + 1) (x ||| ((1 : Int32) <<< ((mL M (a + 2) i).toInt32 &&& 31))) := by
  show lkF M a n (i + 1) (if mI M (a + 1) i = 10 then _ else x) = _
  rw [if_pos h]
theorem lkF_f {M : xM} {a i : Nat} (n : Nat) (x : Int32) (h : ¬ mI M (a + 1) i = 10) : lkF M a (n + 1) i x = lkF M a n (i + 1) x := by
  show lkF M a n (i + 1) (if mI M (a + 1) i = 10 then _ else x) = _
  rw [if_neg h]
theorem sp_X5_linksOf {d : Nat} (hd : 0 ≤ d) {M : xM} (t z : Nat) (hT : TC M) (ht : t < 12) (hz : mI M (54 + 3 * t) 1 = nI z) (hz2 : z ≤ 12) : Sp (fX5_linksOf d) [.ref 0, .int (nI t)] M (dt (some (.int (lkF M (54 + 3 * t) z 0 0))) M) := by
  refine Sp.of pn_X5 (Nat.le_of_ble_eq_true rfl) (fun h => Bool.noConfusion h) ?_
  have loop : ∀ (n i : Nat) (w : Int32), i + n = z → AW (fX5_linksOf d) 12 [(4, .int (nI i)), (3, .int w), (2, .ref (54 + 3 * t)), (0, .ref 0), (1, .int (nI t))] [] M 0 0 (dt (some (.int (lkF M (54 + 3 * t) n i w))) M) := by
    intro n
    induction n with
    | zero =>
      intro i w hi 
      refine aw_iload dX5_linksOf_12 0 rfl ?_
      refine aw_aload_n dX5_linksOf_14 2 rfl ?_
      refine aw_getI dX5_linksOf_15 fl_X5_104 (hT.row (t := t) (by omega)).1 (hT.row (t := t) (by omega)).n0 ?_
      refine aw_topE hz ?_
      refine aw_icmp_geN i z 52 dX5_linksOf_18 (by decide) rfl rfl (by omega) (by omega) (fun c1 => ?_) (fun c1 => absurd (by omega) c1)
      refine aw_iload_n dX5_linksOf_52 1 rfl ?_
      refine aw_iret dX5_linksOf_53 rfl (Nat.zero_le _) (Nat.zero_le _) ?_
      exact ⟨rfl, rfl⟩
    | succ n ih =>
      intro i w hi 
      refine aw_iload dX5_linksOf_12 0 rfl ?_
      refine aw_aload_n dX5_linksOf_14 2 rfl ?_
      refine aw_getI dX5_linksOf_15 fl_X5_104 (hT.row (t := t) (by omega)).1 (hT.row (t := t) (by omega)).n0 ?_
      refine aw_topE hz ?_
      refine aw_icmp_geN i z 52 dX5_linksOf_18 (by decide) rfl rfl (by omega) (by omega) (fun c1 => absurd c1 (by omega)) (fun c1 => ?_)
      refine aw_aload_n dX5_linksOf_21 2 rfl ?_
      refine aw_getR (b := (54 + 3 * t) + 1) dX5_linksOf_22 fl_X5_170 rfl (hT.row (t := t) (by omega)).1 (hT.row (t := t) (by omega)).n0 (hT.row (t := t) (by omega)).2.2.2.1 ?_
      refine aw_iload dX5_linksOf_25 0 rfl ?_
      refine aw_ialdN i dX5_linksOf_27 (hT.row (t := t) (by omega)).2.1 (hT.row (t := t) (by omega)).n1 rfl (by omega) (by first | decide | omega) ?_
      refine aw_bipush (v := 10) dX5_linksOf_28 (by decide) ?_
      refine aw_icmp_ne 46 dX5_linksOf_30 (by decide) (fun c2 => ?_) (fun c2 => ?_)
      · refine aw_iincN i 1 [(4, .int (nI (i + 1))), (3, .int w), (2, .ref (54 + 3 * t)), (0, .ref 0), (1, .int (nI t))] dX5_linksOf_46 0 rfl rfl rfl (Nat.le_of_ble_eq_true rfl) rfl ?_
        refine aw_goto 12 dX5_linksOf_49 (by decide) ?_
        rw [lkF_f n w c2]
        exact ih (i + 1) w (by omega)
      · refine aw_iload_n dX5_linksOf_33 1 rfl ?_
        refine aw_iconst (v := 1) dX5_linksOf_34 (by decide) ?_
        refine aw_aload_n dX5_linksOf_35 2 rfl ?_
        refine aw_getR (b := (54 + 3 * t) + 2) dX5_linksOf_36 fl_X5_142 rfl (hT.row (t := t) (by omega)).1 (hT.row (t := t) (by omega)).n0 (hT.row (t := t) (by omega)).2.2.2.2.1 ?_
        refine aw_iload dX5_linksOf_39 0 rfl ?_
        refine aw_laldN i dX5_linksOf_41 (hT.row (t := t) (by omega)).2.2.1 (hT.row (t := t) (by omega)).n2 rfl (by omega) (by first | decide | omega) ?_
        refine aw_l2i dX5_linksOf_42 ?_
        refine aw_ishl dX5_linksOf_43 ?_
        refine aw_ior dX5_linksOf_44 ?_
        refine aw_istore_n [(3, .int (w ||| (1 <<< ((Int64.toInt32 (mL M ((54 + 3 * t) + 2) i)) &&& 31)))), (4, .int (nI i)), (2, .ref (54 + 3 * t)), (0, .ref 0), (1, .int (nI t))] dX5_linksOf_45 (Nat.le_of_ble_eq_true rfl) rfl ?_
        refine aw_iincN i 1 [(4, .int (nI (i + 1))), (3, .int (w ||| (1 <<< ((Int64.toInt32 (mL M ((54 + 3 * t) + 2) i)) &&& 31)))), (2, .ref (54 + 3 * t)), (0, .ref 0), (1, .int (nI t))] dX5_linksOf_46 1 rfl rfl rfl (Nat.le_of_ble_eq_true rfl) rfl ?_
        refine aw_goto 12 dX5_linksOf_49 (by decide) ?_
        rw [lkF_t n w c2]
        exact ih (i + 1) _ (by omega)
  refine aw_aload_n dX5_linksOf_0 0 rfl ?_
  refine aw_getR (b := 1) dX5_linksOf_1 fl_X5_11 rfl (hT.s 0 (by decide)) (hT.n 0 (by decide)) (hT.r 0 0 (by decide) (by decide)) ?_
  refine aw_iload_n dX5_linksOf_4 1 rfl ?_
  refine aw_aaldN t (54 + 3 * t) dX5_linksOf_5 (hT.s 1 (by decide)) (hT.n 1 (by decide)) rfl (by omega) (by first | decide | omega) (hT.slot (by omega)) ?_
  refine aw_astore_n [(2, .ref (54 + 3 * t)), (0, .ref 0), (1, .int (nI t))] dX5_linksOf_6 (Nat.le_of_ble_eq_true rfl) rfl ?_
  refine aw_iconst (v := 0) dX5_linksOf_7 (by decide) ?_
  refine aw_istore_n [(3, .int 0), (2, .ref (54 + 3 * t)), (0, .ref 0), (1, .int (nI t))] dX5_linksOf_8 (Nat.le_of_ble_eq_true rfl) rfl ?_
  refine aw_iconst (v := 0) dX5_linksOf_9 (by decide) ?_
  refine aw_istore [(4, .int 0), (3, .int 0), (2, .ref (54 + 3 * t)), (0, .ref 0), (1, .int (nI t))] dX5_linksOf_10 (Nat.le_of_ble_eq_true rfl) rfl ?_
  exact loop z 0 0 (by omega)
def laF (M : xM) (Z : Nat → Nat) (s : Int32) : Nat → Nat → Int32 → Int32
  | 0, _, x => x
  | n + 1, t, x => laF M Z s n (t + 1) (if sX5_has s (nI t) = true then x ||| lkF M (54 + 3 * t) (Z t) 0 0 else x)
theorem laF_t {M : xM} {Z : Nat → Nat} {s : Int32} {t : Nat} (n : Nat) (x : Int32) (h : sX5_has s (nI t) = true) : laF M Z s (n + 1) t x = laF M Z s n (t + 1) (x ||| lkF M (54 + 3 * t) (Z t) 0 0) := by
  show laF M Z s n (t + 1) (if sX5_has s (nI t) = true then _ else x) = _
  rw [if_pos h]
theorem laF_f {M : xM} {Z : Nat → Nat} {s : Int32} {t : Nat} (n : Nat) (x : Int32) (h : sX5_has s (nI t) = false) : laF M Z s (n + 1) t x = laF M Z s n (t + 1) x := by
  show laF M Z s n (t + 1) (if sX5_has s (nI t) = true then _ else x) = _
  rw [if_neg (by rw [h]; decide)]
/-- the lengths of the slots' rows -/
def LenC (M : xM) (Z : Nat → Nat) : Prop := ∀ t, t < 12 → mI M (54 + 3 * t) 1 = nI (Z t) ∧ Z t ≤ 12
theorem sp_X5_linksOfAll {d : Nat} (hd : 1 ≤ d) {M : xM} (s : Int32) (Z : Nat → Nat) (hT : TC M) (hZ : LenC M Z) : Sp (fX5_linksOfAll d) [.ref 0, .int s] M (dt (some (.int (laF M Z s 12 0 0))) M) := by
  refine Sp.of pn_X5 (Nat.le_of_ble_eq_true rfl) (fun h => Bool.noConfusion h) ?_
  have loop : ∀ (n i : Nat) (w : Int32), i + n = 12 → AW (fX5_linksOfAll d) 4 [(3, .int (nI i)), (2, .int w), (0, .ref 0), (1, .int s)] [] M 0 0 (dt (some (.int (laF M Z s n i w))) M) := by
    intro n
    induction n with
    | zero =>
      intro i w hi 
      refine aw_iload_n dX5_linksOfAll_4 0 rfl ?_
      refine aw_bipush (v := 12) dX5_linksOfAll_5 (by decide) ?_
      refine aw_icmp_geN i 12 32 dX5_linksOfAll_7 (by decide) rfl rfl (by omega) (by omega) (fun c1 => ?_) (fun c1 => absurd (by omega) c1)
      refine aw_iload_n dX5_linksOfAll_32 1 rfl ?_
      refine aw_iret dX5_linksOfAll_33 rfl (Nat.zero_le _) (Nat.zero_le _) ?_
      exact ⟨rfl, rfl⟩
    | succ n ih =>
      intro i w hi 
      refine aw_iload_n dX5_linksOfAll_4 0 rfl ?_
      refine aw_bipush (v := 12) dX5_linksOfAll_5 (by decide) ?_
      refine aw_icmp_geN i 12 32 dX5_linksOfAll_7 (by decide) rfl rfl (by omega) (by omega) (fun c1 => absurd c1 (by omega)) (fun c1 => ?_)
      refine aw_iload_n dX5_linksOfAll_10 3 rfl ?_
      refine aw_iload_n dX5_linksOfAll_11 0 rfl ?_
      refine aw_callSi [.int s, .int (nI i)] [] (sp_X5_has (d := d - 1) (by omega) s (nI i) ) dX5_linksOfAll_12 ml_X5_110 sm_X5_has rfl (dl1 (d := d) (by omega)) rfl rfl (Nat.le_of_ble_eq_true rfl) rfl rfl (Nat.zero_le _) (Nat.zero_le _) ?_
      refine aw_if_eq 26 dX5_linksOfAll_15 (by decide) (fun c2 => ?_) (fun c2 => ?_)
      · refine aw_iincN i 1 [(3, .int (nI (i + 1))), (2, .int w), (0, .ref 0), (1, .int s)] dX5_linksOfAll_26 0 rfl rfl rfl (Nat.le_of_ble_eq_true rfl) rfl ?_
        refine aw_goto 4 dX5_linksOfAll_29 (by decide) ?_
        rw [laF_f n w (bz_0.mp c2)]
        exact ih (i + 1) w (by omega)
      · refine aw_iload_n dX5_linksOfAll_18 1 rfl ?_
        refine aw_aload_n dX5_linksOfAll_19 2 rfl ?_
        refine aw_iload_n dX5_linksOfAll_20 0 rfl ?_
        refine aw_callVi [.int (nI i)] [.int w] (sp_X5_linksOf (d := d - 1) (by omega) i (Z i) hT (by omega) (hZ i (by omega)).1 (hZ i (by omega)).2) dX5_linksOfAll_21 ml_X5_107 im_X5_linksOf (hT.s 0 (by decide)) (hT.n 0 (by decide)) rfl rfl (dl1 (d := d) (by omega)) rfl rfl (Nat.le_of_ble_eq_true rfl) rfl rfl (Nat.zero_le _) (Nat.zero_le _) ?_
        refine aw_ior dX5_linksOfAll_24 ?_
        refine aw_istore_n [(2, .int (w ||| (lkF M (54 + 3 * i) (Z i) 0 0))), (3, .int (nI i)), (0, .ref 0), (1, .int s)] dX5_linksOfAll_25 (Nat.le_of_ble_eq_true rfl) rfl ?_
        refine aw_iincN i 1 [(3, .int (nI (i + 1))), (2, .int (w ||| (lkF M (54 + 3 * i) (Z i) 0 0))), (0, .ref 0), (1, .int s)] dX5_linksOfAll_26 1 rfl rfl rfl (Nat.le_of_ble_eq_true rfl) rfl ?_
        refine aw_goto 4 dX5_linksOfAll_29 (by decide) ?_
        rw [laF_t n w (bz_n0.mp c2)]
        exact ih (i + 1) _ (by omega)
  refine aw_iconst (v := 0) dX5_linksOfAll_0 (by decide) ?_
  refine aw_istore_n [(2, .int 0), (0, .ref 0), (1, .int s)] dX5_linksOfAll_1 (Nat.le_of_ble_eq_true rfl) rfl ?_
  refine aw_iconst (v := 0) dX5_linksOfAll_2 (by decide) ?_
  refine aw_istore_n [(3, .int 0), (2, .int 0), (0, .ref 0), (1, .int s)] dX5_linksOfAll_3 (Nat.le_of_ble_eq_true rfl) rfl ?_
  exact loop 12 0 0 (by omega)
def hgF (M : xM) (Z : Nat → Nat) : Nat → Int32 → Int32
  | 0, x => x
  | n + 1, x => hgF M Z n (x ||| laF M Z x 12 0 0)
theorem sp_X5_hangingOn {d : Nat} (hd : 2 ≤ d) {M : xM} (x1 : Int32) (Z : Nat → Nat) (hT : TC M) (hZ : LenC M Z) : Sp (fX5_hangingOn d) [.ref 0, .int x1] M (dt (some (.int (hgF M Z 12 ((1 : Int32) <<< (x1 &&& 31))))) M) := by
  refine Sp.of pn_X5 (Nat.le_of_ble_eq_true rfl) (fun h => Bool.noConfusion h) ?_
  have loop : ∀ (n i : Nat) (w : Int32), i + n = 12 → AW (fX5_hangingOn d) 6 [(3, .int (nI i)), (2, .int w), (0, .ref 0), (1, .int x1)] [] M 0 0 (dt (some (.int (hgF M Z n w))) M) := by
    intro n
    induction n with
    | zero =>
      intro i w hi 
      refine aw_iload_n dX5_hangingOn_6 0 rfl ?_
      refine aw_bipush (v := 12) dX5_hangingOn_7 (by decide) ?_
      refine aw_icmp_geN i 12 26 dX5_hangingOn_9 (by decide) rfl rfl (by omega) (by omega) (fun c1 => ?_) (fun c1 => absurd (by omega) c1)
      refine aw_iload_n dX5_hangingOn_26 1 rfl ?_
      refine aw_iret dX5_hangingOn_27 rfl (Nat.zero_le _) (Nat.zero_le _) ?_
      exact ⟨rfl, rfl⟩
    | succ n ih =>
      intro i w hi 
      refine aw_iload_n dX5_hangingOn_6 0 rfl ?_
      refine aw_bipush (v := 12) dX5_hangingOn_7 (by decide) ?_
      refine aw_icmp_geN i 12 26 dX5_hangingOn_9 (by decide) rfl rfl (by omega) (by omega) (fun c1 => absurd c1 (by omega)) (fun c1 => ?_)
      refine aw_iload_n dX5_hangingOn_12 1 rfl ?_
      refine aw_aload_n dX5_hangingOn_13 2 rfl ?_
      refine aw_iload_n dX5_hangingOn_14 1 rfl ?_
      refine aw_callVi [.int w] [.int w] (sp_X5_linksOfAll (d := d - 1) (by omega) w Z hT hZ) dX5_hangingOn_15 ml_X5_267 im_X5_linksOfAll (hT.s 0 (by decide)) (hT.n 0 (by decide)) rfl rfl (dl1 (d := d) (by omega)) rfl rfl (Nat.le_of_ble_eq_true rfl) rfl rfl (Nat.zero_le _) (Nat.zero_le _) ?_
      refine aw_ior dX5_hangingOn_18 ?_
      refine aw_istore_n [(2, .int (w ||| (laF M Z w 12 0 0))), (3, .int (nI i)), (0, .ref 0), (1, .int x1)] dX5_hangingOn_19 (Nat.le_of_ble_eq_true rfl) rfl ?_
      refine aw_iincN i 1 [(3, .int (nI (i + 1))), (2, .int (w ||| (laF M Z w 12 0 0))), (0, .ref 0), (1, .int x1)] dX5_hangingOn_20 1 rfl rfl rfl (Nat.le_of_ble_eq_true rfl) rfl ?_
      refine aw_goto 6 dX5_hangingOn_23 (by decide) ?_
      exact ih (i + 1) _ (by omega)
  refine aw_iconst (v := 1) dX5_hangingOn_0 (by decide) ?_
  refine aw_iload_n dX5_hangingOn_1 1 rfl ?_
  refine aw_ishl dX5_hangingOn_2 ?_
  refine aw_istore_n [(2, .int (1 <<< (x1 &&& 31))), (0, .ref 0), (1, .int x1)] dX5_hangingOn_3 (Nat.le_of_ble_eq_true rfl) rfl ?_
  refine aw_iconst (v := 0) dX5_hangingOn_4 (by decide) ?_
  refine aw_istore_n [(3, .int 0), (2, .int (1 <<< (x1 &&& 31))), (0, .ref 0), (1, .int x1)] dX5_hangingOn_5 (Nat.le_of_ble_eq_true rfl) rfl ?_
  exact loop 12 0 _ (by omega)
-- errors
theorem slot_vp {x : Int32} (h : ¬ bz (sX5_isSlot x.toInt64) = 0) : vp_in x 12 := by
  have h := bz_n0.mp h
  unfold sX5_isSlot at h
  by_cases h1 : x.toInt64 < 0
  · rw [if_pos h1] at h; cases h
  · by_cases h2 : 12 ≤ x.toInt64
    · rw [if_neg h1, if_pos h2] at h; cases h
    · have a1 : ¬ x.toInt64.toInt < (0 : Int) := fun z => h1 (Int64.lt_iff_toInt_lt.mpr z)
      have a2 : ¬ (12 : Int) ≤ x.toInt64.toInt := fun z => h2 (Int64.le_iff_toInt_le.mpr z)
      rw [Int32.toInt_toInt64] at a1 a2
      rw [vp_in_iff]
      omega
theorem slotL_vp {x : Int64} (h : ¬ bz (sX5_isSlot x) = 0) : vp_in x.toInt32 12 := by
  have h := bz_n0.mp h
  unfold sX5_isSlot at h
  by_cases h1 : x < 0
  · rw [if_pos h1] at h; cases h
  · by_cases h2 : 12 ≤ x
    · rw [if_neg h1, if_pos h2] at h; cases h
    · have a1 : ¬ x.toInt < (0 : Int) := fun z => h1 (Int64.lt_iff_toInt_lt.mpr z)
      have a2 : ¬ (12 : Int) ≤ x.toInt := fun z => h2 (Int64.le_iff_toInt_le.mpr z)
      rw [vp_in_iff, Int64.toInt_toInt32, Int.bmod_eq_of_le (by omega) (by omega)]
      omega
def sX5_slotError (M : xM) (x1 : Int32) : Int32 := (if (bz (sX5_isSlot (Int32.toInt64 x1))) = 0 then -1 else (if (bz (sX2_isEmpty M (54 + 3 * x1.toNatClampNeg))) = 0 then 0 else -5))
theorem sp_X5_slotError {d : Nat} (hd : 1 ≤ d) {M : xM} (x1 : Int32) (hT : TC M)  : Sp (fX5_slotError d) [.ref 0, .int x1] M (dt (some (.int (sX5_slotError M x1))) (M)) := by
  refine Sp.of pn_X5 (Nat.le_of_ble_eq_true rfl) (fun h => Bool.noConfusion h) ?_
  refine aw_iload_n dX5_slotError_0 1 rfl ?_
  refine aw_i2l dX5_slotError_1 ?_
  refine aw_callSi [.long (Int32.toInt64 x1)] [] (sp_X5_isSlot (d := d - 1) (by omega) (Int32.toInt64 x1) ) dX5_slotError_2 ml_X5_281 sm_X5_isSlot rfl (dl1 (d := d) (by omega)) rfl rfl (Nat.le_of_ble_eq_true rfl) rfl rfl (Nat.zero_le _) (Nat.zero_le _) ?_
  refine aw_if_ne 10 dX5_slotError_5 (by decide) (fun c1 => ?_) (fun c1 => ?_)
  · refine aw_aload_n dX5_slotError_10 0 rfl ?_
    refine aw_getR (b := 1) dX5_slotError_11 fl_X5_11 rfl (hT.s 0 (by decide)) (hT.n 0 (by decide)) (hT.r 0 0 (by decide) (by decide)) ?_
    refine aw_iload_n dX5_slotError_14 1 rfl ?_
    refine aw_aald (b := 54 + 3 * x1.toNatClampNeg) dX5_slotError_15 (hT.s 1 (by decide)) (hT.n 1 (by decide)) (slot_vp c1) (hT.slot (vp_lt (slot_vp c1))) ?_
    refine aw_callVi [] [] (sp_X2_isEmpty (d := d - 1) (by omega)  (hT.row (t := x1.toNatClampNeg) (vp_lt (slot_vp c1)))) dX5_slotError_16 ml_X5_123 im_X2_isEmpty (hT.row (t := x1.toNatClampNeg) (vp_lt (slot_vp c1))).1 (hT.row (t := x1.toNatClampNeg) (vp_lt (slot_vp c1))).n0 rfl rfl (dl1 (d := d) (by omega)) rfl rfl (Nat.le_of_ble_eq_true rfl) rfl rfl (Nat.zero_le _) (Nat.zero_le _) ?_
    refine aw_if_eq 27 dX5_slotError_19 (by decide) (fun c2 => ?_) (fun c2 => ?_)
    · refine aw_iconst (v := 0) dX5_slotError_27 (by decide) ?_
      refine aw_iret dX5_slotError_28 rfl (Nat.zero_le _) (Nat.zero_le _) ?_
      exact ⟨congrArg (fun z => some (Value.int z)) (show sX5_slotError M x1 = 0 by unfold sX5_slotError; rw [if_neg c1, if_pos c2]).symm, rfl⟩
    · refine aw_bipush (v := -5) dX5_slotError_22 (by decide) ?_
      refine aw_goto 28 dX5_slotError_24 (by decide) ?_
      refine aw_iret dX5_slotError_28 rfl (Nat.zero_le _) (Nat.zero_le _) ?_
      exact ⟨congrArg (fun z => some (Value.int z)) (show sX5_slotError M x1 = -5 by unfold sX5_slotError; rw [if_neg c1, if_neg c2]).symm, rfl⟩
  · refine aw_iconst (v := -1) dX5_slotError_8 (by decide) ?_
    refine aw_iret dX5_slotError_9 rfl (Nat.zero_le _) (Nat.zero_le _) ?_
    exact ⟨congrArg (fun z => some (Value.int z)) (show sX5_slotError M x1 = -1 by unfold sX5_slotError; rw [if_pos c1]).symm, rfl⟩
theorem slotE_vp {M : xM} {x : Int32} (h : sX5_slotError M x = 0) : vp_in x 12 := by
  unfold sX5_slotError at h
  by_cases h1 : bz (sX5_isSlot x.toInt64) = 0
  · rw [if_pos h1] at h; cases h
  · exact slot_vp h1
def sX5_arrayError (M : xM) (x1 : Int32) : Int32 := (if (sX5_slotError M x1) = 0 then (if (bz (sX2_isArray M (54 + 3 * x1.toNatClampNeg))) = 0 then -6 else 0) else sX5_slotError M x1)
theorem sp_X5_arrayError {d : Nat} (hd : 2 ≤ d) {M : xM} (x1 : Int32) (hT : TC M)  : Sp (fX5_arrayError d) [.ref 0, .int x1] M (dt (some (.int (sX5_arrayError M x1))) (M)) := by
  refine Sp.of pn_X5 (Nat.le_of_ble_eq_true rfl) (fun h => Bool.noConfusion h) ?_
  refine aw_aload_n dX5_arrayError_0 0 rfl ?_
  refine aw_iload_n dX5_arrayError_1 1 rfl ?_
  refine aw_callVi [.int x1] [] (sp_X5_slotError (d := d - 1) (by omega) x1 hT) dX5_arrayError_2 ml_X5_94 im_X5_slotError (hT.s 0 (by decide)) (hT.n 0 (by decide)) rfl rfl (dl1 (d := d) (by omega)) rfl rfl (Nat.le_of_ble_eq_true rfl) rfl rfl (Nat.zero_le _) (Nat.zero_le _) ?_
  refine aw_istore_n [(2, .int (sX5_slotError M x1)), (0, .ref 0), (1, .int x1)] dX5_arrayError_5 (Nat.le_of_ble_eq_true rfl) rfl ?_
  refine aw_iload_n dX5_arrayError_6 0 rfl ?_
  refine aw_if_eq 12 dX5_arrayError_7 (by decide) (fun c1 => ?_) (fun c1 => ?_)
  · refine aw_aload_n dX5_arrayError_12 1 rfl ?_
    refine aw_getR (b := 1) dX5_arrayError_13 fl_X5_11 rfl (hT.s 0 (by decide)) (hT.n 0 (by decide)) (hT.r 0 0 (by decide) (by decide)) ?_
    refine aw_iload_n dX5_arrayError_16 2 rfl ?_
    refine aw_aald (b := 54 + 3 * x1.toNatClampNeg) dX5_arrayError_17 (hT.s 1 (by decide)) (hT.n 1 (by decide)) (slotE_vp c1) (hT.slot (vp_lt (slotE_vp c1))) ?_
    refine aw_callVi [] [] (sp_X2_isArray (d := d - 1) (by omega)  (hT.row (t := x1.toNatClampNeg) (vp_lt (slotE_vp c1)))) dX5_arrayError_18 ml_X5_251 im_X2_isArray (hT.row (t := x1.toNatClampNeg) (vp_lt (slotE_vp c1))).1 (hT.row (t := x1.toNatClampNeg) (vp_lt (slotE_vp c1))).n0 rfl rfl (dl1 (d := d) (by omega)) rfl rfl (Nat.le_of_ble_eq_true rfl) rfl rfl (Nat.zero_le _) (Nat.zero_le _) ?_
    refine aw_if_eq 28 dX5_arrayError_21 (by decide) (fun c2 => ?_) (fun c2 => ?_)
    · refine aw_bipush (v := -6) dX5_arrayError_28 (by decide) ?_
      refine aw_iret dX5_arrayError_30 rfl (Nat.zero_le _) (Nat.zero_le _) ?_
      exact ⟨congrArg (fun z => some (Value.int z)) (show sX5_arrayError M x1 = -6 by unfold sX5_arrayError; rw [if_pos c1, if_pos c2]).symm, rfl⟩
    · refine aw_iconst (v := 0) dX5_arrayError_24 (by decide) ?_
      refine aw_goto 30 dX5_arrayError_25 (by decide) ?_
      refine aw_iret dX5_arrayError_30 rfl (Nat.zero_le _) (Nat.zero_le _) ?_
      exact ⟨congrArg (fun z => some (Value.int z)) (show sX5_arrayError M x1 = 0 by unfold sX5_arrayError; rw [if_pos c1, if_neg c2]).symm, rfl⟩
  · refine aw_iload_n dX5_arrayError_10 0 rfl ?_
    refine aw_iret dX5_arrayError_11 rfl (Nat.zero_le _) (Nat.zero_le _) ?_
    exact ⟨congrArg (fun z => some (Value.int z)) (show sX5_arrayError M x1 = sX5_slotError M x1 by unfold sX5_arrayError; rw [if_neg c1]).symm, rfl⟩
theorem arrayE_s {M : xM} {x : Int32} (h : sX5_arrayError M x = 0) : sX5_slotError M x = 0 := by
  unfold sX5_arrayError at h
  by_cases h1 : sX5_slotError M x = 0
  · exact h1
  · rw [if_neg h1] at h; exact absurd h h1
theorem arrayE_vp {M : xM} {x : Int32} (h : sX5_arrayError M x = 0) : vp_in x 12 := slotE_vp (arrayE_s h)
def sX5_primitiveError (M : xM) (x1 : Int32) : Int32 := (if (sX5_arrayError M x1) = 0 then (if (bz (sX2_isPrimitive M (54 + 3 * x1.toNatClampNeg))) = 0 then -7 else 0) else sX5_arrayError M x1)
theorem sp_X5_primitiveError {d : Nat} (hd : 3 ≤ d) {M : xM} (x1 : Int32) (hT : TC M)  : Sp (fX5_primitiveError d) [.ref 0, .int x1] M (dt (some (.int (sX5_primitiveError M x1))) (M)) := by
  refine Sp.of pn_X5 (Nat.le_of_ble_eq_true rfl) (fun h => Bool.noConfusion h) ?_
  refine aw_aload_n dX5_primitiveError_0 0 rfl ?_
  refine aw_iload_n dX5_primitiveError_1 1 rfl ?_
  refine aw_callVi [.int x1] [] (sp_X5_arrayError (d := d - 1) (by omega) x1 hT) dX5_primitiveError_2 ml_X5_101 im_X5_arrayError (hT.s 0 (by decide)) (hT.n 0 (by decide)) rfl rfl (dl1 (d := d) (by omega)) rfl rfl (Nat.le_of_ble_eq_true rfl) rfl rfl (Nat.zero_le _) (Nat.zero_le _) ?_
  refine aw_istore_n [(2, .int (sX5_arrayError M x1)), (0, .ref 0), (1, .int x1)] dX5_primitiveError_5 (Nat.le_of_ble_eq_true rfl) rfl ?_
  refine aw_iload_n dX5_primitiveError_6 0 rfl ?_
  refine aw_if_eq 12 dX5_primitiveError_7 (by decide) (fun c1 => ?_) (fun c1 => ?_)
  · refine aw_aload_n dX5_primitiveError_12 1 rfl ?_
    refine aw_getR (b := 1) dX5_primitiveError_13 fl_X5_11 rfl (hT.s 0 (by decide)) (hT.n 0 (by decide)) (hT.r 0 0 (by decide) (by decide)) ?_
    refine aw_iload_n dX5_primitiveError_16 2 rfl ?_
    refine aw_aald (b := 54 + 3 * x1.toNatClampNeg) dX5_primitiveError_17 (hT.s 1 (by decide)) (hT.n 1 (by decide)) (arrayE_vp c1) (hT.slot (vp_lt (arrayE_vp c1))) ?_
    refine aw_callVi [] [] (sp_X2_isPrimitive (d := d - 1) (by omega)  (hT.row (t := x1.toNatClampNeg) (vp_lt (arrayE_vp c1)))) dX5_primitiveError_18 ml_X5_284 im_X2_isPrimitive (hT.row (t := x1.toNatClampNeg) (vp_lt (arrayE_vp c1))).1 (hT.row (t := x1.toNatClampNeg) (vp_lt (arrayE_vp c1))).n0 rfl rfl (dl1 (d := d) (by omega)) rfl rfl (Nat.le_of_ble_eq_true rfl) rfl rfl (Nat.zero_le _) (Nat.zero_le _) ?_
    refine aw_if_eq 28 dX5_primitiveError_21 (by decide) (fun c2 => ?_) (fun c2 => ?_)
    · refine aw_bipush (v := -7) dX5_primitiveError_28 (by decide) ?_
      refine aw_iret dX5_primitiveError_30 rfl (Nat.zero_le _) (Nat.zero_le _) ?_
      exact ⟨congrArg (fun z => some (Value.int z)) (show sX5_primitiveError M x1 = -7 by unfold sX5_primitiveError; rw [if_pos c1, if_pos c2]).symm, rfl⟩
    · refine aw_iconst (v := 0) dX5_primitiveError_24 (by decide) ?_
      refine aw_goto 30 dX5_primitiveError_25 (by decide) ?_
      refine aw_iret dX5_primitiveError_30 rfl (Nat.zero_le _) (Nat.zero_le _) ?_
      exact ⟨congrArg (fun z => some (Value.int z)) (show sX5_primitiveError M x1 = 0 by unfold sX5_primitiveError; rw [if_pos c1, if_neg c2]).symm, rfl⟩
  · refine aw_iload_n dX5_primitiveError_10 0 rfl ?_
    refine aw_iret dX5_primitiveError_11 rfl (Nat.zero_le _) (Nat.zero_le _) ?_
    exact ⟨congrArg (fun z => some (Value.int z)) (show sX5_primitiveError M x1 = sX5_arrayError M x1 by unfold sX5_primitiveError; rw [if_neg c1]).symm, rfl⟩
def sX5_placeError (M : xM) (x1 : Int32) (x2 : Int32) : Int32 := (if (sX5_arrayError M x1) = 0 then (if (bz (sX2_hasPlace M (54 + 3 * x1.toNatClampNeg) x2)) = 0 then -8 else 0) else sX5_arrayError M x1)
theorem sp_X5_placeError {d : Nat} (hd : 3 ≤ d) {M : xM} (x1 : Int32) (x2 : Int32) (hT : TC M)  : Sp (fX5_placeError d) [.ref 0, .int x1, .int x2] M (dt (some (.int (sX5_placeError M x1 x2))) (M)) := by
  refine Sp.of pn_X5 (Nat.le_of_ble_eq_true rfl) (fun h => Bool.noConfusion h) ?_
  refine aw_aload_n dX5_placeError_0 0 rfl ?_
  refine aw_iload_n dX5_placeError_1 1 rfl ?_
  refine aw_callVi [.int x1] [] (sp_X5_arrayError (d := d - 1) (by omega) x1 hT) dX5_placeError_2 ml_X5_101 im_X5_arrayError (hT.s 0 (by decide)) (hT.n 0 (by decide)) rfl rfl (dl1 (d := d) (by omega)) rfl rfl (Nat.le_of_ble_eq_true rfl) rfl rfl (Nat.zero_le _) (Nat.zero_le _) ?_
  refine aw_istore_n [(3, .int (sX5_arrayError M x1)), (0, .ref 0), (1, .int x1), (2, .int x2)] dX5_placeError_5 (Nat.le_of_ble_eq_true rfl) rfl ?_
  refine aw_iload_n dX5_placeError_6 0 rfl ?_
  refine aw_if_eq 12 dX5_placeError_7 (by decide) (fun c1 => ?_) (fun c1 => ?_)
  · refine aw_aload_n dX5_placeError_12 1 rfl ?_
    refine aw_getR (b := 1) dX5_placeError_13 fl_X5_11 rfl (hT.s 0 (by decide)) (hT.n 0 (by decide)) (hT.r 0 0 (by decide) (by decide)) ?_
    refine aw_iload_n dX5_placeError_16 2 rfl ?_
    refine aw_aald (b := 54 + 3 * x1.toNatClampNeg) dX5_placeError_17 (hT.s 1 (by decide)) (hT.n 1 (by decide)) (arrayE_vp c1) (hT.slot (vp_lt (arrayE_vp c1))) ?_
    refine aw_iload_n dX5_placeError_18 3 rfl ?_
    refine aw_callVi [.int x2] [] (sp_X2_hasPlace (d := d - 1) (by omega) x2 (hT.row (t := x1.toNatClampNeg) (vp_lt (arrayE_vp c1)))) dX5_placeError_19 ml_X5_287 im_X2_hasPlace (hT.row (t := x1.toNatClampNeg) (vp_lt (arrayE_vp c1))).1 (hT.row (t := x1.toNatClampNeg) (vp_lt (arrayE_vp c1))).n0 rfl rfl (dl1 (d := d) (by omega)) rfl rfl (Nat.le_of_ble_eq_true rfl) rfl rfl (Nat.zero_le _) (Nat.zero_le _) ?_
    refine aw_if_eq 29 dX5_placeError_22 (by decide) (fun c2 => ?_) (fun c2 => ?_)
    · refine aw_bipush (v := -8) dX5_placeError_29 (by decide) ?_
      refine aw_iret dX5_placeError_31 rfl (Nat.zero_le _) (Nat.zero_le _) ?_
      exact ⟨congrArg (fun z => some (Value.int z)) (show sX5_placeError M x1 x2 = -8 by unfold sX5_placeError; rw [if_pos c1, if_pos c2]).symm, rfl⟩
    · refine aw_iconst (v := 0) dX5_placeError_25 (by decide) ?_
      refine aw_goto 31 dX5_placeError_26 (by decide) ?_
      refine aw_iret dX5_placeError_31 rfl (Nat.zero_le _) (Nat.zero_le _) ?_
      exact ⟨congrArg (fun z => some (Value.int z)) (show sX5_placeError M x1 x2 = 0 by unfold sX5_placeError; rw [if_pos c1, if_neg c2]).symm, rfl⟩
  · refine aw_iload_n dX5_placeError_10 0 rfl ?_
    refine aw_iret dX5_placeError_11 rfl (Nat.zero_le _) (Nat.zero_le _) ?_
    exact ⟨congrArg (fun z => some (Value.int z)) (show sX5_placeError M x1 x2 = sX5_arrayError M x1 by unfold sX5_placeError; rw [if_neg c1]).symm, rfl⟩
theorem primE_vp {M : xM} {x : Int32} (h : sX5_primitiveError M x = 0) : vp_in x 12 := by
  unfold sX5_primitiveError at h
  by_cases h1 : sX5_arrayError M x = 0
  · exact arrayE_vp h1
  · rw [if_neg h1] at h; exact absurd h h1
theorem placeE_vp {M : xM} {x y : Int32} (h : sX5_placeError M x y = 0) : vp_in x 12 := by
  unfold sX5_placeError at h
  by_cases h1 : sX5_arrayError M x = 0
  · exact arrayE_vp h1
  · rw [if_neg h1] at h; exact absurd h h1
def sX5_slotPairError (M : xM) (x1 : Int32) (x2 : Int32) : Int32 := sX5_firstError (sX5_slotError M x1) (sX5_slotError M x2)
theorem sp_X5_slotPairError {d : Nat} (hd : 2 ≤ d) {M : xM} (x1 : Int32) (x2 : Int32) (hT : TC M)  : Sp (fX5_slotPairError d) [.ref 0, .int x1, .int x2] M (dt (some (.int (sX5_slotPairError M x1 x2))) (M)) := by
  refine Sp.of pn_X5 (Nat.le_of_ble_eq_true rfl) (fun h => Bool.noConfusion h) ?_
  refine aw_aload_n dX5_slotPairError_0 0 rfl ?_
  refine aw_iload_n dX5_slotPairError_1 1 rfl ?_
  refine aw_callVi [.int x1] [] (sp_X5_slotError (d := d - 1) (by omega) x1 hT) dX5_slotPairError_2 ml_X5_94 im_X5_slotError (hT.s 0 (by decide)) (hT.n 0 (by decide)) rfl rfl (dl1 (d := d) (by omega)) rfl rfl (Nat.le_of_ble_eq_true rfl) rfl rfl (Nat.zero_le _) (Nat.zero_le _) ?_
  refine aw_aload_n dX5_slotPairError_5 0 rfl ?_
  refine aw_iload_n dX5_slotPairError_6 2 rfl ?_
  refine aw_callVi [.int x2] [.int (sX5_slotError M x1)] (sp_X5_slotError (d := d - 1) (by omega) x2 hT) dX5_slotPairError_7 ml_X5_94 im_X5_slotError (hT.s 0 (by decide)) (hT.n 0 (by decide)) rfl rfl (dl1 (d := d) (by omega)) rfl rfl (Nat.le_of_ble_eq_true rfl) rfl rfl (Nat.zero_le _) (Nat.zero_le _) ?_
  refine aw_callSi [.int (sX5_slotError M x1), .int (sX5_slotError M x2)] [] (sp_X5_firstError (d := d - 1) (by omega) (sX5_slotError M x1) (sX5_slotError M x2) ) dX5_slotPairError_10 ml_X5_290 sm_X5_firstError rfl (dl1 (d := d) (by omega)) rfl rfl (Nat.le_of_ble_eq_true rfl) rfl rfl (Nat.zero_le _) (Nat.zero_le _) ?_
  refine aw_iret dX5_slotPairError_13 rfl (Nat.zero_le _) (Nat.zero_le _) ?_
  exact ⟨congrArg (fun z => some (Value.int z)) (rfl : sX5_firstError (sX5_slotError M x1) (sX5_slotError M x2) = sX5_slotPairError M x1 x2), rfl⟩
def sX5_arrayPairError (M : xM) (x1 : Int32) (x2 : Int32) : Int32 := sX5_firstError (sX5_arrayError M x1) (sX5_arrayError M x2)
theorem sp_X5_arrayPairError {d : Nat} (hd : 3 ≤ d) {M : xM} (x1 : Int32) (x2 : Int32) (hT : TC M)  : Sp (fX5_arrayPairError d) [.ref 0, .int x1, .int x2] M (dt (some (.int (sX5_arrayPairError M x1 x2))) (M)) := by
  refine Sp.of pn_X5 (Nat.le_of_ble_eq_true rfl) (fun h => Bool.noConfusion h) ?_
  refine aw_aload_n dX5_arrayPairError_0 0 rfl ?_
  refine aw_iload_n dX5_arrayPairError_1 1 rfl ?_
  refine aw_callVi [.int x1] [] (sp_X5_arrayError (d := d - 1) (by omega) x1 hT) dX5_arrayPairError_2 ml_X5_101 im_X5_arrayError (hT.s 0 (by decide)) (hT.n 0 (by decide)) rfl rfl (dl1 (d := d) (by omega)) rfl rfl (Nat.le_of_ble_eq_true rfl) rfl rfl (Nat.zero_le _) (Nat.zero_le _) ?_
  refine aw_aload_n dX5_arrayPairError_5 0 rfl ?_
  refine aw_iload_n dX5_arrayPairError_6 2 rfl ?_
  refine aw_callVi [.int x2] [.int (sX5_arrayError M x1)] (sp_X5_arrayError (d := d - 1) (by omega) x2 hT) dX5_arrayPairError_7 ml_X5_101 im_X5_arrayError (hT.s 0 (by decide)) (hT.n 0 (by decide)) rfl rfl (dl1 (d := d) (by omega)) rfl rfl (Nat.le_of_ble_eq_true rfl) rfl rfl (Nat.zero_le _) (Nat.zero_le _) ?_
  refine aw_callSi [.int (sX5_arrayError M x1), .int (sX5_arrayError M x2)] [] (sp_X5_firstError (d := d - 1) (by omega) (sX5_arrayError M x1) (sX5_arrayError M x2) ) dX5_arrayPairError_10 ml_X5_290 sm_X5_firstError rfl (dl1 (d := d) (by omega)) rfl rfl (Nat.le_of_ble_eq_true rfl) rfl rfl (Nat.zero_le _) (Nat.zero_le _) ?_
  refine aw_iret dX5_arrayPairError_13 rfl (Nat.zero_le _) (Nat.zero_le _) ?_
  exact ⟨congrArg (fun z => some (Value.int z)) (rfl : sX5_firstError (sX5_arrayError M x1) (sX5_arrayError M x2) = sX5_arrayPairError M x1 x2), rfl⟩
def sX5_getError (M : xM) (x1 : Int32) (x2 : Int32) (x3 : Int32) : Int32 := (if (bz (sX0_isKind x2)) = 0 then -1 else (if (sX5_primitiveError M x1) = 0 then (if (sX5_placeError M x1 x3) = 0 then (if (bz (sX0_widens (mI M (54 + 3 * x1.toNatClampNeg) 0) x2)) = 0 then -9 else 0) else sX5_placeError M x1 x3) else (if (sX5_primitiveError M x1) = 0 then (if (bz (sX0_widens (mI M (54 + 3 * x1.toNatClampNeg) 0) x2)) = 0 then -9 else 0) else sX5_primitiveError M x1)))
theorem sp_X5_getError {d : Nat} (hd : 4 ≤ d) {M : xM} (x1 : Int32) (x2 : Int32) (x3 : Int32) (hT : TC M)  : Sp (fX5_getError d) [.ref 0, .int x1, .int x2, .int x3] M (dt (some (.int (sX5_getError M x1 x2 x3))) (M)) := by
  refine Sp.of pn_X5 (Nat.le_of_ble_eq_true rfl) (fun h => Bool.noConfusion h) ?_
  refine aw_iload_n dX5_getError_0 2 rfl ?_
  refine aw_callSi [.int x2] [] (sp_X0_isKind (d := d - 1) (by omega) x2 ) dX5_getError_1 ml_X5_296 sm_X0_isKind rfl (dl1 (d := d) (by omega)) rfl rfl (Nat.le_of_ble_eq_true rfl) rfl rfl (Nat.zero_le _) (Nat.zero_le _) ?_
  refine aw_if_ne 9 dX5_getError_4 (by decide) (fun c1 => ?_) (fun c1 => ?_)
  · refine aw_aload_n dX5_getError_9 0 rfl ?_
    refine aw_iload_n dX5_getError_10 1 rfl ?_
    refine aw_callVi [.int x1] [] (sp_X5_primitiveError (d := d - 1) (by omega) x1 hT) dX5_getError_11 ml_X5_201 im_X5_primitiveError (hT.s 0 (by decide)) (hT.n 0 (by decide)) rfl rfl (dl1 (d := d) (by omega)) rfl rfl (Nat.le_of_ble_eq_true rfl) rfl rfl (Nat.zero_le _) (Nat.zero_le _) ?_
    refine aw_istore [(4, .int (sX5_primitiveError M x1)), (0, .ref 0), (1, .int x1), (2, .int x2), (3, .int x3)] dX5_getError_14 (Nat.le_of_ble_eq_true rfl) rfl ?_
    refine aw_iload dX5_getError_16 0 rfl ?_
    refine aw_if_ne 29 dX5_getError_18 (by decide) (fun c2 => ?_) (fun c2 => ?_)
    · refine aw_iload dX5_getError_29 0 rfl ?_
      refine aw_if_eq 37 dX5_getError_31 (by decide) (fun c3 => ?_) (fun c3 => ?_)
      · refine aw_aload_n dX5_getError_37 1 rfl ?_
        refine aw_getR (b := 1) dX5_getError_38 fl_X5_11 rfl (hT.s 0 (by decide)) (hT.n 0 (by decide)) (hT.r 0 0 (by decide) (by decide)) ?_
        refine aw_iload_n dX5_getError_41 2 rfl ?_
        refine aw_aald (b := 54 + 3 * x1.toNatClampNeg) dX5_getError_42 (hT.s 1 (by decide)) (hT.n 1 (by decide)) (primE_vp c3) (hT.slot (vp_lt (primE_vp c3))) ?_
        refine aw_getI dX5_getError_43 fl_X5_98 (hT.row (t := x1.toNatClampNeg) (vp_lt (primE_vp c3))).1 (hT.row (t := x1.toNatClampNeg) (vp_lt (primE_vp c3))).n0 ?_
        refine aw_iload_n dX5_getError_46 3 rfl ?_
        refine aw_callSi [.int (mI M (54 + 3 * x1.toNatClampNeg) 0), .int x2] [] (sp_X0_widens (d := d - 1) (by omega) (mI M (54 + 3 * x1.toNatClampNeg) 0) x2 ) dX5_getError_47 ml_X5_167 sm_X0_widens rfl (dl1 (d := d) (by omega)) rfl rfl (Nat.le_of_ble_eq_true rfl) rfl rfl (Nat.zero_le _) (Nat.zero_le _) ?_
        refine aw_if_eq 57 dX5_getError_50 (by decide) (fun c4 => ?_) (fun c4 => ?_)
        · refine aw_bipush (v := -9) dX5_getError_57 (by decide) ?_
          refine aw_iret dX5_getError_59 rfl (Nat.zero_le _) (Nat.zero_le _) ?_
          exact ⟨congrArg (fun z => some (Value.int z)) (show sX5_getError M x1 x2 x3 = -9 by unfold sX5_getError; rw [if_neg c1, if_neg c2, if_pos c3, if_pos c4]).symm, rfl⟩
        · refine aw_iconst (v := 0) dX5_getError_53 (by decide) ?_
          refine aw_goto 59 dX5_getError_54 (by decide) ?_
          refine aw_iret dX5_getError_59 rfl (Nat.zero_le _) (Nat.zero_le _) ?_
          exact ⟨congrArg (fun z => some (Value.int z)) (show sX5_getError M x1 x2 x3 = 0 by unfold sX5_getError; rw [if_neg c1, if_neg c2, if_pos c3, if_neg c4]).symm, rfl⟩
      · refine aw_iload dX5_getError_34 0 rfl ?_
        refine aw_iret dX5_getError_36 rfl (Nat.zero_le _) (Nat.zero_le _) ?_
        exact ⟨congrArg (fun z => some (Value.int z)) (show sX5_getError M x1 x2 x3 = sX5_primitiveError M x1 by unfold sX5_getError; rw [if_neg c1, if_neg c2, if_neg c3]).symm, rfl⟩
    · refine aw_aload_n dX5_getError_21 1 rfl ?_
      refine aw_iload_n dX5_getError_22 2 rfl ?_
      refine aw_iload_n dX5_getError_23 4 rfl ?_
      refine aw_callVi [.int x1, .int x3] [] (sp_X5_placeError (d := d - 1) (by omega) x1 x3 hT) dX5_getError_24 ml_X5_164 im_X5_placeError (hT.s 0 (by decide)) (hT.n 0 (by decide)) rfl rfl (dl1 (d := d) (by omega)) rfl rfl (Nat.le_of_ble_eq_true rfl) rfl rfl (Nat.zero_le _) (Nat.zero_le _) ?_
      refine aw_istore [(4, .int (sX5_placeError M x1 x3)), (0, .ref 0), (1, .int x1), (2, .int x2), (3, .int x3)] dX5_getError_27 (Nat.le_of_ble_eq_true rfl) rfl ?_
      refine aw_iload dX5_getError_29 0 rfl ?_
      refine aw_if_eq 37 dX5_getError_31 (by decide) (fun c5 => ?_) (fun c5 => ?_)
      · refine aw_aload_n dX5_getError_37 1 rfl ?_
        refine aw_getR (b := 1) dX5_getError_38 fl_X5_11 rfl (hT.s 0 (by decide)) (hT.n 0 (by decide)) (hT.r 0 0 (by decide) (by decide)) ?_
        refine aw_iload_n dX5_getError_41 2 rfl ?_
        refine aw_aald (b := 54 + 3 * x1.toNatClampNeg) dX5_getError_42 (hT.s 1 (by decide)) (hT.n 1 (by decide)) (placeE_vp c5) (hT.slot (vp_lt (placeE_vp c5))) ?_
        refine aw_getI dX5_getError_43 fl_X5_98 (hT.row (t := x1.toNatClampNeg) (vp_lt (placeE_vp c5))).1 (hT.row (t := x1.toNatClampNeg) (vp_lt (placeE_vp c5))).n0 ?_
        refine aw_iload_n dX5_getError_46 3 rfl ?_
        refine aw_callSi [.int (mI M (54 + 3 * x1.toNatClampNeg) 0), .int x2] [] (sp_X0_widens (d := d - 1) (by omega) (mI M (54 + 3 * x1.toNatClampNeg) 0) x2 ) dX5_getError_47 ml_X5_167 sm_X0_widens rfl (dl1 (d := d) (by omega)) rfl rfl (Nat.le_of_ble_eq_true rfl) rfl rfl (Nat.zero_le _) (Nat.zero_le _) ?_
        refine aw_if_eq 57 dX5_getError_50 (by decide) (fun c6 => ?_) (fun c6 => ?_)
        · refine aw_bipush (v := -9) dX5_getError_57 (by decide) ?_
          refine aw_iret dX5_getError_59 rfl (Nat.zero_le _) (Nat.zero_le _) ?_
          exact ⟨congrArg (fun z => some (Value.int z)) (show sX5_getError M x1 x2 x3 = -9 by unfold sX5_getError; rw [if_neg c1, if_pos c2, if_pos c5, if_pos c6]).symm, rfl⟩
        · refine aw_iconst (v := 0) dX5_getError_53 (by decide) ?_
          refine aw_goto 59 dX5_getError_54 (by decide) ?_
          refine aw_iret dX5_getError_59 rfl (Nat.zero_le _) (Nat.zero_le _) ?_
          exact ⟨congrArg (fun z => some (Value.int z)) (show sX5_getError M x1 x2 x3 = 0 by unfold sX5_getError; rw [if_neg c1, if_pos c2, if_pos c5, if_neg c6]).symm, rfl⟩
      · refine aw_iload dX5_getError_34 0 rfl ?_
        refine aw_iret dX5_getError_36 rfl (Nat.zero_le _) (Nat.zero_le _) ?_
        exact ⟨congrArg (fun z => some (Value.int z)) (show sX5_getError M x1 x2 x3 = sX5_placeError M x1 x3 by unfold sX5_getError; rw [if_neg c1, if_pos c2, if_neg c5]).symm, rfl⟩
  · refine aw_iconst (v := -1) dX5_getError_7 (by decide) ?_
    refine aw_iret dX5_getError_8 rfl (Nat.zero_le _) (Nat.zero_le _) ?_
    exact ⟨congrArg (fun z => some (Value.int z)) (show sX5_getError M x1 x2 x3 = -1 by unfold sX5_getError; rw [if_pos c1]).symm, rfl⟩
def sX5_setError (M : xM) (x1 : Int32) (x2 : Int32) (x3 : Int32) (x4 : Int64) : Int32 := (if (bz (sX0_isKind x2)) = 0 then -1 else (if (bz (sX0_fits x2 x4)) = 0 then -1 else (if (sX5_primitiveError M x1) = 0 then (if (sX5_placeError M x1 x3) = 0 then (if (bz (sX0_widens x2 (mI M (54 + 3 * x1.toNatClampNeg) 0))) = 0 then -9 else 0) else sX5_placeError M x1 x3) else (if (sX5_primitiveError M x1) = 0 then (if (bz (sX0_widens x2 (mI M (54 + 3 * x1.toNatClampNeg) 0))) = 0 then -9 else 0) else sX5_primitiveError M x1))))
theorem sp_X5_setError {d : Nat} (hd : 4 ≤ d) {M : xM} (x1 : Int32) (x2 : Int32) (x3 : Int32) (x4 : Int64) (hT : TC M)  : Sp (fX5_setError d) [.ref 0, .int x1, .int x2, .int x3, .long x4] M (dt (some (.int (sX5_setError M x1 x2 x3 x4))) (M)) := by
  refine Sp.of pn_X5 (Nat.le_of_ble_eq_true rfl) (fun h => Bool.noConfusion h) ?_
  refine aw_iload_n dX5_setError_0 2 rfl ?_
  refine aw_callSi [.int x2] [] (sp_X0_isKind (d := d - 1) (by omega) x2 ) dX5_setError_1 ml_X5_296 sm_X0_isKind rfl (dl1 (d := d) (by omega)) rfl rfl (Nat.le_of_ble_eq_true rfl) rfl rfl (Nat.zero_le _) (Nat.zero_le _) ?_
  refine aw_if_eq 16 dX5_setError_4 (by decide) (fun c1 => ?_) (fun c1 => ?_)
  · refine aw_iconst (v := -1) dX5_setError_16 (by decide) ?_
    refine aw_iret dX5_setError_17 rfl (Nat.zero_le _) (Nat.zero_le _) ?_
    exact ⟨congrArg (fun z => some (Value.int z)) (show sX5_setError M x1 x2 x3 x4 = -1 by unfold sX5_setError; rw [if_pos c1]).symm, rfl⟩
  · refine aw_iload_n dX5_setError_7 2 rfl ?_
    refine aw_lload dX5_setError_8 4 rfl ?_
    refine aw_callSi [.int x2, .long x4] [] (sp_X0_fits (d := d - 1) (by omega) x2 x4 ) dX5_setError_10 ml_X5_299 sm_X0_fits rfl (dl1 (d := d) (by omega)) rfl rfl (Nat.le_of_ble_eq_true rfl) rfl rfl (Nat.zero_le _) (Nat.zero_le _) ?_
    refine aw_if_ne 18 dX5_setError_13 (by decide) (fun c2 => ?_) (fun c2 => ?_)
    · refine aw_aload_n dX5_setError_18 0 rfl ?_
      refine aw_iload_n dX5_setError_19 1 rfl ?_
      refine aw_callVi [.int x1] [] (sp_X5_primitiveError (d := d - 1) (by omega) x1 hT) dX5_setError_20 ml_X5_201 im_X5_primitiveError (hT.s 0 (by decide)) (hT.n 0 (by decide)) rfl rfl (dl1 (d := d) (by omega)) rfl rfl (Nat.le_of_ble_eq_true rfl) rfl rfl (Nat.zero_le _) (Nat.zero_le _) ?_
      refine aw_istore [(6, .int (sX5_primitiveError M x1)), (0, .ref 0), (1, .int x1), (2, .int x2), (3, .int x3), (4, .long x4)] dX5_setError_23 (Nat.le_of_ble_eq_true rfl) rfl ?_
      refine aw_iload dX5_setError_25 0 rfl ?_
      refine aw_if_ne 38 dX5_setError_27 (by decide) (fun c3 => ?_) (fun c3 => ?_)
      · refine aw_iload dX5_setError_38 0 rfl ?_
        refine aw_if_eq 46 dX5_setError_40 (by decide) (fun c4 => ?_) (fun c4 => ?_)
        · refine aw_iload_n dX5_setError_46 3 rfl ?_
          refine aw_aload_n dX5_setError_47 1 rfl ?_
          refine aw_getR (b := 1) dX5_setError_48 fl_X5_11 rfl (hT.s 0 (by decide)) (hT.n 0 (by decide)) (hT.r 0 0 (by decide) (by decide)) ?_
          refine aw_iload_n dX5_setError_51 2 rfl ?_
          refine aw_aald (b := 54 + 3 * x1.toNatClampNeg) dX5_setError_52 (hT.s 1 (by decide)) (hT.n 1 (by decide)) (primE_vp c4) (hT.slot (vp_lt (primE_vp c4))) ?_
          refine aw_getI dX5_setError_53 fl_X5_98 (hT.row (t := x1.toNatClampNeg) (vp_lt (primE_vp c4))).1 (hT.row (t := x1.toNatClampNeg) (vp_lt (primE_vp c4))).n0 ?_
          refine aw_callSi [.int x2, .int (mI M (54 + 3 * x1.toNatClampNeg) 0)] [] (sp_X0_widens (d := d - 1) (by omega) x2 (mI M (54 + 3 * x1.toNatClampNeg) 0) ) dX5_setError_56 ml_X5_167 sm_X0_widens rfl (dl1 (d := d) (by omega)) rfl rfl (Nat.le_of_ble_eq_true rfl) rfl rfl (Nat.zero_le _) (Nat.zero_le _) ?_
          refine aw_if_eq 66 dX5_setError_59 (by decide) (fun c5 => ?_) (fun c5 => ?_)
          · refine aw_bipush (v := -9) dX5_setError_66 (by decide) ?_
            refine aw_iret dX5_setError_68 rfl (Nat.zero_le _) (Nat.zero_le _) ?_
            exact ⟨congrArg (fun z => some (Value.int z)) (show sX5_setError M x1 x2 x3 x4 = -9 by unfold sX5_setError; rw [if_neg c1, if_neg c2, if_neg c3, if_pos c4, if_pos c5]).symm, rfl⟩
          · refine aw_iconst (v := 0) dX5_setError_62 (by decide) ?_
            refine aw_goto 68 dX5_setError_63 (by decide) ?_
            refine aw_iret dX5_setError_68 rfl (Nat.zero_le _) (Nat.zero_le _) ?_
            exact ⟨congrArg (fun z => some (Value.int z)) (show sX5_setError M x1 x2 x3 x4 = 0 by unfold sX5_setError; rw [if_neg c1, if_neg c2, if_neg c3, if_pos c4, if_neg c5]).symm, rfl⟩
        · refine aw_iload dX5_setError_43 0 rfl ?_
          refine aw_iret dX5_setError_45 rfl (Nat.zero_le _) (Nat.zero_le _) ?_
          exact ⟨congrArg (fun z => some (Value.int z)) (show sX5_setError M x1 x2 x3 x4 = sX5_primitiveError M x1 by unfold sX5_setError; rw [if_neg c1, if_neg c2, if_neg c3, if_neg c4]).symm, rfl⟩
      · refine aw_aload_n dX5_setError_30 1 rfl ?_
        refine aw_iload_n dX5_setError_31 2 rfl ?_
        refine aw_iload_n dX5_setError_32 4 rfl ?_
        refine aw_callVi [.int x1, .int x3] [] (sp_X5_placeError (d := d - 1) (by omega) x1 x3 hT) dX5_setError_33 ml_X5_164 im_X5_placeError (hT.s 0 (by decide)) (hT.n 0 (by decide)) rfl rfl (dl1 (d := d) (by omega)) rfl rfl (Nat.le_of_ble_eq_true rfl) rfl rfl (Nat.zero_le _) (Nat.zero_le _) ?_
        refine aw_istore [(6, .int (sX5_placeError M x1 x3)), (0, .ref 0), (1, .int x1), (2, .int x2), (3, .int x3), (4, .long x4)] dX5_setError_36 (Nat.le_of_ble_eq_true rfl) rfl ?_
        refine aw_iload dX5_setError_38 0 rfl ?_
        refine aw_if_eq 46 dX5_setError_40 (by decide) (fun c6 => ?_) (fun c6 => ?_)
        · refine aw_iload_n dX5_setError_46 3 rfl ?_
          refine aw_aload_n dX5_setError_47 1 rfl ?_
          refine aw_getR (b := 1) dX5_setError_48 fl_X5_11 rfl (hT.s 0 (by decide)) (hT.n 0 (by decide)) (hT.r 0 0 (by decide) (by decide)) ?_
          refine aw_iload_n dX5_setError_51 2 rfl ?_
          refine aw_aald (b := 54 + 3 * x1.toNatClampNeg) dX5_setError_52 (hT.s 1 (by decide)) (hT.n 1 (by decide)) (placeE_vp c6) (hT.slot (vp_lt (placeE_vp c6))) ?_
          refine aw_getI dX5_setError_53 fl_X5_98 (hT.row (t := x1.toNatClampNeg) (vp_lt (placeE_vp c6))).1 (hT.row (t := x1.toNatClampNeg) (vp_lt (placeE_vp c6))).n0 ?_
          refine aw_callSi [.int x2, .int (mI M (54 + 3 * x1.toNatClampNeg) 0)] [] (sp_X0_widens (d := d - 1) (by omega) x2 (mI M (54 + 3 * x1.toNatClampNeg) 0) ) dX5_setError_56 ml_X5_167 sm_X0_widens rfl (dl1 (d := d) (by omega)) rfl rfl (Nat.le_of_ble_eq_true rfl) rfl rfl (Nat.zero_le _) (Nat.zero_le _) ?_
          refine aw_if_eq 66 dX5_setError_59 (by decide) (fun c7 => ?_) (fun c7 => ?_)
          · refine aw_bipush (v := -9) dX5_setError_66 (by decide) ?_
            refine aw_iret dX5_setError_68 rfl (Nat.zero_le _) (Nat.zero_le _) ?_
            exact ⟨congrArg (fun z => some (Value.int z)) (show sX5_setError M x1 x2 x3 x4 = -9 by unfold sX5_setError; rw [if_neg c1, if_neg c2, if_pos c3, if_pos c6, if_pos c7]).symm, rfl⟩
          · refine aw_iconst (v := 0) dX5_setError_62 (by decide) ?_
            refine aw_goto 68 dX5_setError_63 (by decide) ?_
            refine aw_iret dX5_setError_68 rfl (Nat.zero_le _) (Nat.zero_le _) ?_
            exact ⟨congrArg (fun z => some (Value.int z)) (show sX5_setError M x1 x2 x3 x4 = 0 by unfold sX5_setError; rw [if_neg c1, if_neg c2, if_pos c3, if_pos c6, if_neg c7]).symm, rfl⟩
        · refine aw_iload dX5_setError_43 0 rfl ?_
          refine aw_iret dX5_setError_45 rfl (Nat.zero_le _) (Nat.zero_le _) ?_
          exact ⟨congrArg (fun z => some (Value.int z)) (show sX5_setError M x1 x2 x3 x4 = sX5_placeError M x1 x3 by unfold sX5_setError; rw [if_neg c1, if_neg c2, if_pos c3, if_neg c6]).symm, rfl⟩
    · refine aw_iconst (v := -1) dX5_setError_16 (by decide) ?_
      refine aw_iret dX5_setError_17 rfl (Nat.zero_le _) (Nat.zero_le _) ?_
      exact ⟨congrArg (fun z => some (Value.int z)) (show sX5_setError M x1 x2 x3 x4 = -1 by unfold sX5_setError; rw [if_neg c1, if_pos c2]).symm, rfl⟩
def sX5_isContents (x1 : Int32) (x2 : Int64) : Bool := (if x1 = 15 then (wrd x2) else (if x2 < 0 then false else (if x1 = 14 then (if (Int32.toInt64 5) < x2 then false else true) else (if (Int32.toInt64 12) < x2 then false else true))))
theorem sp_X5_isContents {d : Nat} (hd : 1 ≤ d) {M : xM} (x1 : Int32) (x2 : Int64)  : Sp (fX5_isContents d) [.int x1, .long x2] M (dt (some (.int (bz (sX5_isContents x1 x2)))) (M)) := by
  refine Sp.of pn_X5 (Nat.le_of_ble_eq_true rfl) (fun h => Bool.noConfusion h) ?_
  refine aw_iload_n dX5_isContents_0 0 rfl ?_
  refine aw_bipush (v := 15) dX5_isContents_1 (by decide) ?_
  refine aw_icmp_ne 11 dX5_isContents_3 (by decide) (fun c1 => ?_) (fun c1 => ?_)
  · refine aw_lload_n dX5_isContents_11 1 rfl ?_
    refine aw_lconst (v := 0) dX5_isContents_12 (by decide) ?_
    refine aw_llt 39 dX5_isContents_13 dX5_isContents_14 (by decide) (fun c2 => ?_) (fun c2 => ?_)
    · refine aw_iconst (v := 0) dX5_isContents_39 (by decide) ?_
      refine aw_zret dX5_isContents_40 rfl rfl (Nat.zero_le _) (Nat.zero_le _) ?_
      exact ⟨congrArg (fun z => some (Value.int (bz z))) (show sX5_isContents x1 x2 = false by unfold sX5_isContents; rw [if_neg c1, if_pos c2]).symm, rfl⟩
    · refine aw_lload_n dX5_isContents_17 1 rfl ?_
      refine aw_iload_n dX5_isContents_18 0 rfl ?_
      refine aw_bipush (v := 14) dX5_isContents_19 (by decide) ?_
      refine aw_icmp_ne 28 dX5_isContents_21 (by decide) (fun c3 => ?_) (fun c3 => ?_)
      · refine aw_bipush (v := 12) dX5_isContents_28 (by decide) ?_
        refine aw_i2l dX5_isContents_30 ?_
        refine aw_lgt 39 dX5_isContents_31 dX5_isContents_32 (by decide) (fun c4 => ?_) (fun c4 => ?_)
        · refine aw_iconst (v := 0) dX5_isContents_39 (by decide) ?_
          refine aw_zret dX5_isContents_40 rfl rfl (Nat.zero_le _) (Nat.zero_le _) ?_
          exact ⟨congrArg (fun z => some (Value.int (bz z))) (show sX5_isContents x1 x2 = false by unfold sX5_isContents; rw [if_neg c1, if_neg c2, if_neg c3, if_pos c4]).symm, rfl⟩
        · refine aw_iconst (v := 1) dX5_isContents_35 (by decide) ?_
          refine aw_goto 40 dX5_isContents_36 (by decide) ?_
          refine aw_zret dX5_isContents_40 rfl rfl (Nat.zero_le _) (Nat.zero_le _) ?_
          exact ⟨congrArg (fun z => some (Value.int (bz z))) (show sX5_isContents x1 x2 = true by unfold sX5_isContents; rw [if_neg c1, if_neg c2, if_neg c3, if_neg c4]).symm, rfl⟩
      · refine aw_iconst (v := 5) dX5_isContents_24 (by decide) ?_
        refine aw_goto 30 dX5_isContents_25 (by decide) ?_
        refine aw_i2l dX5_isContents_30 ?_
        refine aw_lgt 39 dX5_isContents_31 dX5_isContents_32 (by decide) (fun c5 => ?_) (fun c5 => ?_)
        · refine aw_iconst (v := 0) dX5_isContents_39 (by decide) ?_
          refine aw_zret dX5_isContents_40 rfl rfl (Nat.zero_le _) (Nat.zero_le _) ?_
          exact ⟨congrArg (fun z => some (Value.int (bz z))) (show sX5_isContents x1 x2 = false by unfold sX5_isContents; rw [if_neg c1, if_neg c2, if_pos c3, if_pos c5]).symm, rfl⟩
        · refine aw_iconst (v := 1) dX5_isContents_35 (by decide) ?_
          refine aw_goto 40 dX5_isContents_36 (by decide) ?_
          refine aw_zret dX5_isContents_40 rfl rfl (Nat.zero_le _) (Nat.zero_le _) ?_
          exact ⟨congrArg (fun z => some (Value.int (bz z))) (show sX5_isContents x1 x2 = true by unfold sX5_isContents; rw [if_neg c1, if_neg c2, if_pos c3, if_neg c5]).symm, rfl⟩
  · refine aw_lload_n dX5_isContents_6 1 rfl ?_
    refine aw_callSi [.long x2] [] (sp_X5_isWord (d := d - 1) (by omega) x2 ) dX5_isContents_7 ml_X5_273 sm_X5_isWord rfl (dl1 (d := d) (by omega)) rfl rfl (Nat.le_of_ble_eq_true rfl) rfl rfl (Nat.zero_le _) (Nat.zero_le _) ?_
    refine aw_zret dX5_isContents_10 rfl narrow_bz (Nat.zero_le _) (Nat.zero_le _) ?_
    exact ⟨congrArg (fun z => some (Value.int (bz z))) (show sX5_isContents x1 x2 = (wrd x2) by unfold sX5_isContents; rw [if_pos c1]).symm, rfl⟩
def sX5_isValue (M : xM) (x1 : Int32) (x2 : Int64) : Bool := (if x1 = 8 then (wrd x2) else (if x1 = 9 then (if x2 < 0 then false else (if 6 ≤ x2 then false else true)) else (if x1 = 10 then (if (bz (sX5_isSlot x2)) = 0 then false else (if (bz (sX2_isArray M (54 + 3 * ((Int64.toInt32 x2).toNatClampNeg)))) = 0 then false else true)) else (if x1 = 11 then (if x2 = 0 then true else false) else (sX0_fits x1 x2)))))
theorem sp_X5_isValue {d : Nat} (hd : 1 ≤ d) {M : xM} (x1 : Int32) (x2 : Int64) (hT : TC M)  : Sp (fX5_isValue d) [.ref 0, .int x1, .long x2] M (dt (some (.int (bz (sX5_isValue M x1 x2)))) (M)) := by
  refine Sp.of pn_X5 (Nat.le_of_ble_eq_true rfl) (fun h => Bool.noConfusion h) ?_
  refine aw_iload_n dX5_isValue_0 1 rfl ?_
  by_cases c1 : x1 = 8
  · refine aw_tableIn 32 dX5_isValue_1 (by rw [c1]; decide) (by rw [c1]; decide) (by rw [c1]; rfl) (by decide) ?_
    refine aw_lload_n dX5_isValue_32 2 rfl ?_
    refine aw_callSi [.long x2] [] (sp_X5_isWord (d := d - 1) (by omega) x2 ) dX5_isValue_33 ml_X5_273 sm_X5_isWord rfl (dl1 (d := d) (by omega)) rfl rfl (Nat.le_of_ble_eq_true rfl) rfl rfl (Nat.zero_le _) (Nat.zero_le _) ?_
    refine aw_zret dX5_isValue_36 rfl narrow_bz (Nat.zero_le _) (Nat.zero_le _) ?_
    exact ⟨congrArg (fun z => some (Value.int (bz z))) (show sX5_isValue M x1 x2 = (wrd x2) by unfold sX5_isValue; rw [if_pos c1]).symm, rfl⟩
  by_cases c2 : x1 = 9
  · refine aw_tableIn 37 dX5_isValue_1 (by rw [c2]; decide) (by rw [c2]; decide) (by rw [c2]; rfl) (by decide) ?_
    refine aw_lload_n dX5_isValue_37 2 rfl ?_
    refine aw_lconst (v := 0) dX5_isValue_38 (by decide) ?_
    refine aw_llt 55 dX5_isValue_39 dX5_isValue_40 (by decide) (fun c3 => ?_) (fun c3 => ?_)
    · refine aw_iconst (v := 0) dX5_isValue_55 (by decide) ?_
      refine aw_zret dX5_isValue_56 rfl rfl (Nat.zero_le _) (Nat.zero_le _) ?_
      exact ⟨congrArg (fun z => some (Value.int (bz z))) (show sX5_isValue M x1 x2 = false by unfold sX5_isValue; rw [if_neg c1, if_pos c2, if_pos c3]).symm, rfl⟩
    · refine aw_lload_n dX5_isValue_43 2 rfl ?_
      refine aw_ldc2 dX5_isValue_44 kc_X5_315 ?_
      refine aw_lge 55 dX5_isValue_47 dX5_isValue_48 (by decide) (fun c4 => ?_) (fun c4 => ?_)
      · refine aw_iconst (v := 0) dX5_isValue_55 (by decide) ?_
        refine aw_zret dX5_isValue_56 rfl rfl (Nat.zero_le _) (Nat.zero_le _) ?_
        exact ⟨congrArg (fun z => some (Value.int (bz z))) (show sX5_isValue M x1 x2 = false by unfold sX5_isValue; rw [if_neg c1, if_pos c2, if_neg c3, if_pos c4]).symm, rfl⟩
      · refine aw_iconst (v := 1) dX5_isValue_51 (by decide) ?_
        refine aw_goto 56 dX5_isValue_52 (by decide) ?_
        refine aw_zret dX5_isValue_56 rfl rfl (Nat.zero_le _) (Nat.zero_le _) ?_
        exact ⟨congrArg (fun z => some (Value.int (bz z))) (show sX5_isValue M x1 x2 = true by unfold sX5_isValue; rw [if_neg c1, if_pos c2, if_neg c3, if_neg c4]).symm, rfl⟩
  by_cases c5 : x1 = 10
  · refine aw_tableIn 57 dX5_isValue_1 (by rw [c5]; decide) (by rw [c5]; decide) (by rw [c5]; rfl) (by decide) ?_
    refine aw_lload_n dX5_isValue_57 2 rfl ?_
    refine aw_callSi [.long x2] [] (sp_X5_isSlot (d := d - 1) (by omega) x2 ) dX5_isValue_58 ml_X5_281 sm_X5_isSlot rfl (dl1 (d := d) (by omega)) rfl rfl (Nat.le_of_ble_eq_true rfl) rfl rfl (Nat.zero_le _) (Nat.zero_le _) ?_
    refine aw_if_eq 81 dX5_isValue_61 (by decide) (fun c6 => ?_) (fun c6 => ?_)
    · refine aw_iconst (v := 0) dX5_isValue_81 (by decide) ?_
      refine aw_zret dX5_isValue_82 rfl rfl (Nat.zero_le _) (Nat.zero_le _) ?_
      exact ⟨congrArg (fun z => some (Value.int (bz z))) (show sX5_isValue M x1 x2 = false by unfold sX5_isValue; rw [if_neg c1, if_neg c2, if_pos c5, if_pos c6]).symm, rfl⟩
    · refine aw_aload_n dX5_isValue_64 0 rfl ?_
      refine aw_getR (b := 1) dX5_isValue_65 fl_X5_11 rfl (hT.s 0 (by decide)) (hT.n 0 (by decide)) (hT.r 0 0 (by decide) (by decide)) ?_
      refine aw_lload_n dX5_isValue_68 2 rfl ?_
      refine aw_l2i dX5_isValue_69 ?_
      refine aw_aald (b := 54 + 3 * ((Int64.toInt32 x2).toNatClampNeg)) dX5_isValue_70 (hT.s 1 (by decide)) (hT.n 1 (by decide)) (slotL_vp c6) (hT.slot (vp_lt (slotL_vp c6))) ?_
      refine aw_callVi [] [] (sp_X2_isArray (d := d - 1) (by omega)  (hT.row (t := ((Int64.toInt32 x2).toNatClampNeg)) (vp_lt (slotL_vp c6)))) dX5_isValue_71 ml_X5_251 im_X2_isArray (hT.row (t := ((Int64.toInt32 x2).toNatClampNeg)) (vp_lt (slotL_vp c6))).1 (hT.row (t := ((Int64.toInt32 x2).toNatClampNeg)) (vp_lt (slotL_vp c6))).n0 rfl rfl (dl1 (d := d) (by omega)) rfl rfl (Nat.le_of_ble_eq_true rfl) rfl rfl (Nat.zero_le _) (Nat.zero_le _) ?_
      refine aw_if_eq 81 dX5_isValue_74 (by decide) (fun c7 => ?_) (fun c7 => ?_)
      · refine aw_iconst (v := 0) dX5_isValue_81 (by decide) ?_
        refine aw_zret dX5_isValue_82 rfl rfl (Nat.zero_le _) (Nat.zero_le _) ?_
        exact ⟨congrArg (fun z => some (Value.int (bz z))) (show sX5_isValue M x1 x2 = false by unfold sX5_isValue; rw [if_neg c1, if_neg c2, if_pos c5, if_neg c6, if_pos c7]).symm, rfl⟩
      · refine aw_iconst (v := 1) dX5_isValue_77 (by decide) ?_
        refine aw_goto 82 dX5_isValue_78 (by decide) ?_
        refine aw_zret dX5_isValue_82 rfl rfl (Nat.zero_le _) (Nat.zero_le _) ?_
        exact ⟨congrArg (fun z => some (Value.int (bz z))) (show sX5_isValue M x1 x2 = true by unfold sX5_isValue; rw [if_neg c1, if_neg c2, if_pos c5, if_neg c6, if_neg c7]).symm, rfl⟩
  by_cases c8 : x1 = 11
  · refine aw_tableIn 83 dX5_isValue_1 (by rw [c8]; decide) (by rw [c8]; decide) (by rw [c8]; rfl) (by decide) ?_
    refine aw_lload_n dX5_isValue_83 2 rfl ?_
    refine aw_lconst (v := 0) dX5_isValue_84 (by decide) ?_
    refine aw_lne 93 dX5_isValue_85 dX5_isValue_86 (by decide) (fun c9 => ?_) (fun c9 => ?_)
    · refine aw_iconst (v := 0) dX5_isValue_93 (by decide) ?_
      refine aw_zret dX5_isValue_94 rfl rfl (Nat.zero_le _) (Nat.zero_le _) ?_
      exact ⟨congrArg (fun z => some (Value.int (bz z))) (show sX5_isValue M x1 x2 = false by unfold sX5_isValue; rw [if_neg c1, if_neg c2, if_neg c5, if_pos c8, if_neg c9]).symm, rfl⟩
    · refine aw_iconst (v := 1) dX5_isValue_89 (by decide) ?_
      refine aw_goto 94 dX5_isValue_90 (by decide) ?_
      refine aw_zret dX5_isValue_94 rfl rfl (Nat.zero_le _) (Nat.zero_le _) ?_
      exact ⟨congrArg (fun z => some (Value.int (bz z))) (show sX5_isValue M x1 x2 = true by unfold sX5_isValue; rw [if_neg c1, if_neg c2, if_neg c5, if_pos c8, if_pos c9]).symm, rfl⟩
  refine aw_tableOut 95 dX5_isValue_1 (by have ec1 : ¬ (Int32.toInt x1) = 8 := fun z => c1 (Int32.toInt_inj.mp (z.trans rfl)); have ec2 : ¬ (Int32.toInt x1) = 9 := fun z => c2 (Int32.toInt_inj.mp (z.trans rfl)); have ec5 : ¬ (Int32.toInt x1) = 10 := fun z => c5 (Int32.toInt_inj.mp (z.trans rfl)); have ec8 : ¬ (Int32.toInt x1) = 11 := fun z => c8 (Int32.toInt_inj.mp (z.trans rfl)); omega) (by decide) ?_
  refine aw_iload_n dX5_isValue_95 1 rfl ?_
  refine aw_lload_n dX5_isValue_96 2 rfl ?_
  refine aw_callSi [.int x1, .long x2] [] (sp_X0_fits (d := d - 1) (by omega) x1 x2 ) dX5_isValue_97 ml_X5_299 sm_X0_fits rfl (dl1 (d := d) (by omega)) rfl rfl (Nat.le_of_ble_eq_true rfl) rfl rfl (Nat.zero_le _) (Nat.zero_le _) ?_
  refine aw_zret dX5_isValue_100 rfl narrow_bz (Nat.zero_le _) (Nat.zero_le _) ?_
  exact ⟨congrArg (fun z => some (Value.int (bz z))) (show sX5_isValue M x1 x2 = (sX0_fits x1 x2) by unfold sX5_isValue; rw [if_neg c1, if_neg c2, if_neg c5, if_neg c8]).symm, rfl⟩
def sX5_accepts (M : xM) (x1 : Int32) (x2 : Int32) (x3 : Int64) : Bool := (if x1 = 8 then (if x2 = 4 then true else (if x2 = 11 then true else false)) else (if x1 = 9 then (if x2 = 8 then true else (if x2 = 11 then true else false)) else (if x1 = 10 then (if x2 = 9 then true else (if x2 = 11 then true else false)) else (if x1 = 11 then (if x2 = 9 then (if 3 ≤ x3 then true else (if x2 = 11 then true else false)) else (if x2 = 11 then true else false)) else (if x1 = 12 then true else (if x1 = 13 then (if x2 = 10 then (if (bz (sX5_isSlot x3)) = 0 then (if x2 = 11 then true else false) else (if (mI M (54 + 3 * ((Int64.toInt32 x3).toNatClampNeg)) 0) = 4 then true else (if x2 = 11 then true else false))) else (if x2 = 11 then true else false)) else (sX0_widens x2 x1)))))))
theorem sp_X5_accepts {d : Nat} (hd : 2 ≤ d) {M : xM} (x1 : Int32) (x2 : Int32) (x3 : Int64) (hT : TC M)  : Sp (fX5_accepts d) [.ref 0, .int x1, .int x2, .long x3] M (dt (some (.int (bz (sX5_accepts M x1 x2 x3)))) (M)) := by
  refine Sp.of pn_X5 (Nat.le_of_ble_eq_true rfl) (fun h => Bool.noConfusion h) ?_
  refine aw_iload_n dX5_accepts_0 1 rfl ?_
  by_cases c1 : x1 = 8
  · refine aw_tableIn 40 dX5_accepts_1 (by rw [c1]; decide) (by rw [c1]; decide) (by rw [c1]; rfl) (by decide) ?_
    refine aw_iload_n dX5_accepts_40 2 rfl ?_
    refine aw_iconst (v := 4) dX5_accepts_41 (by decide) ?_
    refine aw_icmp_eq 51 dX5_accepts_42 (by decide) (fun c2 => ?_) (fun c2 => ?_)
    · refine aw_iconst (v := 1) dX5_accepts_51 (by decide) ?_
      refine aw_goto 56 dX5_accepts_52 (by decide) ?_
      refine aw_zret dX5_accepts_56 rfl rfl (Nat.zero_le _) (Nat.zero_le _) ?_
      exact ⟨congrArg (fun z => some (Value.int (bz z))) (show sX5_accepts M x1 x2 x3 = true by unfold sX5_accepts; rw [if_pos c1, if_pos c2]).symm, rfl⟩
    · refine aw_iload_n dX5_accepts_45 2 rfl ?_
      refine aw_bipush (v := 11) dX5_accepts_46 (by decide) ?_
      refine aw_icmp_ne 55 dX5_accepts_48 (by decide) (fun c3 => ?_) (fun c3 => ?_)
      · refine aw_iconst (v := 0) dX5_accepts_55 (by decide) ?_
        refine aw_zret dX5_accepts_56 rfl rfl (Nat.zero_le _) (Nat.zero_le _) ?_
        exact ⟨congrArg (fun z => some (Value.int (bz z))) (show sX5_accepts M x1 x2 x3 = false by unfold sX5_accepts; rw [if_pos c1, if_neg c2, if_neg c3]).symm, rfl⟩
      · refine aw_iconst (v := 1) dX5_accepts_51 (by decide) ?_
        refine aw_goto 56 dX5_accepts_52 (by decide) ?_
        refine aw_zret dX5_accepts_56 rfl rfl (Nat.zero_le _) (Nat.zero_le _) ?_
        exact ⟨congrArg (fun z => some (Value.int (bz z))) (show sX5_accepts M x1 x2 x3 = true by unfold sX5_accepts; rw [if_pos c1, if_neg c2, if_pos c3]).symm, rfl⟩
  by_cases c4 : x1 = 9
  · refine aw_tableIn 57 dX5_accepts_1 (by rw [c4]; decide) (by rw [c4]; decide) (by rw [c4]; rfl) (by decide) ?_
    refine aw_iload_n dX5_accepts_57 2 rfl ?_
    refine aw_bipush (v := 8) dX5_accepts_58 (by decide) ?_
    refine aw_icmp_eq 69 dX5_accepts_60 (by decide) (fun c5 => ?_) (fun c5 => ?_)
    · refine aw_iconst (v := 1) dX5_accepts_69 (by decide) ?_
      refine aw_goto 74 dX5_accepts_70 (by decide) ?_
      refine aw_zret dX5_accepts_74 rfl rfl (Nat.zero_le _) (Nat.zero_le _) ?_
      exact ⟨congrArg (fun z => some (Value.int (bz z))) (show sX5_accepts M x1 x2 x3 = true by unfold sX5_accepts; rw [if_neg c1, if_pos c4, if_pos c5]).symm, rfl⟩
    · refine aw_iload_n dX5_accepts_63 2 rfl ?_
      refine aw_bipush (v := 11) dX5_accepts_64 (by decide) ?_
      refine aw_icmp_ne 73 dX5_accepts_66 (by decide) (fun c6 => ?_) (fun c6 => ?_)
      · refine aw_iconst (v := 0) dX5_accepts_73 (by decide) ?_
        refine aw_zret dX5_accepts_74 rfl rfl (Nat.zero_le _) (Nat.zero_le _) ?_
        exact ⟨congrArg (fun z => some (Value.int (bz z))) (show sX5_accepts M x1 x2 x3 = false by unfold sX5_accepts; rw [if_neg c1, if_pos c4, if_neg c5, if_neg c6]).symm, rfl⟩
      · refine aw_iconst (v := 1) dX5_accepts_69 (by decide) ?_
        refine aw_goto 74 dX5_accepts_70 (by decide) ?_
        refine aw_zret dX5_accepts_74 rfl rfl (Nat.zero_le _) (Nat.zero_le _) ?_
        exact ⟨congrArg (fun z => some (Value.int (bz z))) (show sX5_accepts M x1 x2 x3 = true by unfold sX5_accepts; rw [if_neg c1, if_pos c4, if_neg c5, if_pos c6]).symm, rfl⟩
  by_cases c7 : x1 = 10
  · refine aw_tableIn 75 dX5_accepts_1 (by rw [c7]; decide) (by rw [c7]; decide) (by rw [c7]; rfl) (by decide) ?_
    refine aw_iload_n dX5_accepts_75 2 rfl ?_
    refine aw_bipush (v := 9) dX5_accepts_76 (by decide) ?_
    refine aw_icmp_eq 87 dX5_accepts_78 (by decide) (fun c8 => ?_) (fun c8 => ?_)
    · refine aw_iconst (v := 1) dX5_accepts_87 (by decide) ?_
      refine aw_goto 92 dX5_accepts_88 (by decide) ?_
      refine aw_zret dX5_accepts_92 rfl rfl (Nat.zero_le _) (Nat.zero_le _) ?_
      exact ⟨congrArg (fun z => some (Value.int (bz z))) (show sX5_accepts M x1 x2 x3 = true by unfold sX5_accepts; rw [if_neg c1, if_neg c4, if_pos c7, if_pos c8]).symm, rfl⟩
    · refine aw_iload_n dX5_accepts_81 2 rfl ?_
      refine aw_bipush (v := 11) dX5_accepts_82 (by decide) ?_
      refine aw_icmp_ne 91 dX5_accepts_84 (by decide) (fun c9 => ?_) (fun c9 => ?_)
      · refine aw_iconst (v := 0) dX5_accepts_91 (by decide) ?_
        refine aw_zret dX5_accepts_92 rfl rfl (Nat.zero_le _) (Nat.zero_le _) ?_
        exact ⟨congrArg (fun z => some (Value.int (bz z))) (show sX5_accepts M x1 x2 x3 = false by unfold sX5_accepts; rw [if_neg c1, if_neg c4, if_pos c7, if_neg c8, if_neg c9]).symm, rfl⟩
      · refine aw_iconst (v := 1) dX5_accepts_87 (by decide) ?_
        refine aw_goto 92 dX5_accepts_88 (by decide) ?_
        refine aw_zret dX5_accepts_92 rfl rfl (Nat.zero_le _) (Nat.zero_le _) ?_
        exact ⟨congrArg (fun z => some (Value.int (bz z))) (show sX5_accepts M x1 x2 x3 = true by unfold sX5_accepts; rw [if_neg c1, if_neg c4, if_pos c7, if_neg c8, if_pos c9]).symm, rfl⟩
  by_cases c10 : x1 = 11
  · refine aw_tableIn 93 dX5_accepts_1 (by rw [c10]; decide) (by rw [c10]; decide) (by rw [c10]; rfl) (by decide) ?_
    refine aw_iload_n dX5_accepts_93 2 rfl ?_
    refine aw_bipush (v := 9) dX5_accepts_94 (by decide) ?_
    refine aw_icmp_ne 107 dX5_accepts_96 (by decide) (fun c11 => ?_) (fun c11 => ?_)
    · refine aw_iload_n dX5_accepts_107 2 rfl ?_
      refine aw_bipush (v := 11) dX5_accepts_108 (by decide) ?_
      refine aw_icmp_ne 117 dX5_accepts_110 (by decide) (fun c12 => ?_) (fun c12 => ?_)
      · refine aw_iconst (v := 0) dX5_accepts_117 (by decide) ?_
        refine aw_zret dX5_accepts_118 rfl rfl (Nat.zero_le _) (Nat.zero_le _) ?_
        exact ⟨congrArg (fun z => some (Value.int (bz z))) (show sX5_accepts M x1 x2 x3 = false by unfold sX5_accepts; rw [if_neg c1, if_neg c4, if_neg c7, if_pos c10, if_neg c11, if_neg c12]).symm, rfl⟩
      · refine aw_iconst (v := 1) dX5_accepts_113 (by decide) ?_
        refine aw_goto 118 dX5_accepts_114 (by decide) ?_
        refine aw_zret dX5_accepts_118 rfl rfl (Nat.zero_le _) (Nat.zero_le _) ?_
        exact ⟨congrArg (fun z => some (Value.int (bz z))) (show sX5_accepts M x1 x2 x3 = true by unfold sX5_accepts; rw [if_neg c1, if_neg c4, if_neg c7, if_pos c10, if_neg c11, if_pos c12]).symm, rfl⟩
    · refine aw_lload_n dX5_accepts_99 3 rfl ?_
      refine aw_ldc2 dX5_accepts_100 kc_X5_317 ?_
      refine aw_lge 113 dX5_accepts_103 dX5_accepts_104 (by decide) (fun c13 => ?_) (fun c13 => ?_)
      · refine aw_iconst (v := 1) dX5_accepts_113 (by decide) ?_
        refine aw_goto 118 dX5_accepts_114 (by decide) ?_
        refine aw_zret dX5_accepts_118 rfl rfl (Nat.zero_le _) (Nat.zero_le _) ?_
        exact ⟨congrArg (fun z => some (Value.int (bz z))) (show sX5_accepts M x1 x2 x3 = true by unfold sX5_accepts; rw [if_neg c1, if_neg c4, if_neg c7, if_pos c10, if_pos c11, if_pos c13]).symm, rfl⟩
      · refine aw_iload_n dX5_accepts_107 2 rfl ?_
        refine aw_bipush (v := 11) dX5_accepts_108 (by decide) ?_
        refine aw_icmp_ne 117 dX5_accepts_110 (by decide) (fun c14 => ?_) (fun c14 => ?_)
        · refine aw_iconst (v := 0) dX5_accepts_117 (by decide) ?_
          refine aw_zret dX5_accepts_118 rfl rfl (Nat.zero_le _) (Nat.zero_le _) ?_
          exact ⟨congrArg (fun z => some (Value.int (bz z))) (show sX5_accepts M x1 x2 x3 = false by unfold sX5_accepts; rw [if_neg c1, if_neg c4, if_neg c7, if_pos c10, if_pos c11, if_neg c13, if_neg c14]).symm, rfl⟩
        · refine aw_iconst (v := 1) dX5_accepts_113 (by decide) ?_
          refine aw_goto 118 dX5_accepts_114 (by decide) ?_
          refine aw_zret dX5_accepts_118 rfl rfl (Nat.zero_le _) (Nat.zero_le _) ?_
          exact ⟨congrArg (fun z => some (Value.int (bz z))) (show sX5_accepts M x1 x2 x3 = true by unfold sX5_accepts; rw [if_neg c1, if_neg c4, if_neg c7, if_pos c10, if_pos c11, if_neg c13, if_pos c14]).symm, rfl⟩
  by_cases c15 : x1 = 12
  · refine aw_tableIn 119 dX5_accepts_1 (by rw [c15]; decide) (by rw [c15]; decide) (by rw [c15]; rfl) (by decide) ?_
    refine aw_iconst (v := 1) dX5_accepts_119 (by decide) ?_
    refine aw_zret dX5_accepts_120 rfl rfl (Nat.zero_le _) (Nat.zero_le _) ?_
    exact ⟨congrArg (fun z => some (Value.int (bz z))) (show sX5_accepts M x1 x2 x3 = true by unfold sX5_accepts; rw [if_neg c1, if_neg c4, if_neg c7, if_neg c10, if_pos c15]).symm, rfl⟩
  by_cases c16 : x1 = 13
  · refine aw_tableIn 121 dX5_accepts_1 (by rw [c16]; decide) (by rw [c16]; decide) (by rw [c16]; rfl) (by decide) ?_
    refine aw_iload_n dX5_accepts_121 2 rfl ?_
    refine aw_bipush (v := 10) dX5_accepts_122 (by decide) ?_
    refine aw_icmp_ne 148 dX5_accepts_124 (by decide) (fun c17 => ?_) (fun c17 => ?_)
    · refine aw_iload_n dX5_accepts_148 2 rfl ?_
      refine aw_bipush (v := 11) dX5_accepts_149 (by decide) ?_
      refine aw_icmp_ne 158 dX5_accepts_151 (by decide) (fun c18 => ?_) (fun c18 => ?_)
      · refine aw_iconst (v := 0) dX5_accepts_158 (by decide) ?_
        refine aw_zret dX5_accepts_159 rfl rfl (Nat.zero_le _) (Nat.zero_le _) ?_
        exact ⟨congrArg (fun z => some (Value.int (bz z))) (show sX5_accepts M x1 x2 x3 = false by unfold sX5_accepts; rw [if_neg c1, if_neg c4, if_neg c7, if_neg c10, if_neg c15, if_pos c16, if_neg c17, if_neg c18]).symm, rfl⟩
      · refine aw_iconst (v := 1) dX5_accepts_154 (by decide) ?_
        refine aw_goto 159 dX5_accepts_155 (by decide) ?_
        refine aw_zret dX5_accepts_159 rfl rfl (Nat.zero_le _) (Nat.zero_le _) ?_
        exact ⟨congrArg (fun z => some (Value.int (bz z))) (show sX5_accepts M x1 x2 x3 = true by unfold sX5_accepts; rw [if_neg c1, if_neg c4, if_neg c7, if_neg c10, if_neg c15, if_pos c16, if_neg c17, if_pos c18]).symm, rfl⟩
    · refine aw_lload_n dX5_accepts_127 3 rfl ?_
      refine aw_callSi [.long x3] [] (sp_X5_isSlot (d := d - 1) (by omega) x3 ) dX5_accepts_128 ml_X5_281 sm_X5_isSlot rfl (dl1 (d := d) (by omega)) rfl rfl (Nat.le_of_ble_eq_true rfl) rfl rfl (Nat.zero_le _) (Nat.zero_le _) ?_
      refine aw_if_eq 148 dX5_accepts_131 (by decide) (fun c19 => ?_) (fun c19 => ?_)
      · refine aw_iload_n dX5_accepts_148 2 rfl ?_
        refine aw_bipush (v := 11) dX5_accepts_149 (by decide) ?_
        refine aw_icmp_ne 158 dX5_accepts_151 (by decide) (fun c20 => ?_) (fun c20 => ?_)
        · refine aw_iconst (v := 0) dX5_accepts_158 (by decide) ?_
          refine aw_zret dX5_accepts_159 rfl rfl (Nat.zero_le _) (Nat.zero_le _) ?_
          exact ⟨congrArg (fun z => some (Value.int (bz z))) (show sX5_accepts M x1 x2 x3 = false by unfold sX5_accepts; rw [if_neg c1, if_neg c4, if_neg c7, if_neg c10, if_neg c15, if_pos c16, if_pos c17, if_pos c19, if_neg c20]).symm, rfl⟩
        · refine aw_iconst (v := 1) dX5_accepts_154 (by decide) ?_
          refine aw_goto 159 dX5_accepts_155 (by decide) ?_
          refine aw_zret dX5_accepts_159 rfl rfl (Nat.zero_le _) (Nat.zero_le _) ?_
          exact ⟨congrArg (fun z => some (Value.int (bz z))) (show sX5_accepts M x1 x2 x3 = true by unfold sX5_accepts; rw [if_neg c1, if_neg c4, if_neg c7, if_neg c10, if_neg c15, if_pos c16, if_pos c17, if_pos c19, if_pos c20]).symm, rfl⟩
      · refine aw_aload_n dX5_accepts_134 0 rfl ?_
        refine aw_getR (b := 1) dX5_accepts_135 fl_X5_11 rfl (hT.s 0 (by decide)) (hT.n 0 (by decide)) (hT.r 0 0 (by decide) (by decide)) ?_
        refine aw_lload_n dX5_accepts_138 3 rfl ?_
        refine aw_l2i dX5_accepts_139 ?_
        refine aw_aald (b := 54 + 3 * ((Int64.toInt32 x3).toNatClampNeg)) dX5_accepts_140 (hT.s 1 (by decide)) (hT.n 1 (by decide)) (slotL_vp c19) (hT.slot (vp_lt (slotL_vp c19))) ?_
        refine aw_getI dX5_accepts_141 fl_X5_98 (hT.row (t := ((Int64.toInt32 x3).toNatClampNeg)) (vp_lt (slotL_vp c19))).1 (hT.row (t := ((Int64.toInt32 x3).toNatClampNeg)) (vp_lt (slotL_vp c19))).n0 ?_
        refine aw_iconst (v := 4) dX5_accepts_144 (by decide) ?_
        refine aw_icmp_eq 154 dX5_accepts_145 (by decide) (fun c21 => ?_) (fun c21 => ?_)
        · refine aw_iconst (v := 1) dX5_accepts_154 (by decide) ?_
          refine aw_goto 159 dX5_accepts_155 (by decide) ?_
          refine aw_zret dX5_accepts_159 rfl rfl (Nat.zero_le _) (Nat.zero_le _) ?_
          exact ⟨congrArg (fun z => some (Value.int (bz z))) (show sX5_accepts M x1 x2 x3 = true by unfold sX5_accepts; rw [if_neg c1, if_neg c4, if_neg c7, if_neg c10, if_neg c15, if_pos c16, if_pos c17, if_neg c19, if_pos c21]).symm, rfl⟩
        · refine aw_iload_n dX5_accepts_148 2 rfl ?_
          refine aw_bipush (v := 11) dX5_accepts_149 (by decide) ?_
          refine aw_icmp_ne 158 dX5_accepts_151 (by decide) (fun c22 => ?_) (fun c22 => ?_)
          · refine aw_iconst (v := 0) dX5_accepts_158 (by decide) ?_
            refine aw_zret dX5_accepts_159 rfl rfl (Nat.zero_le _) (Nat.zero_le _) ?_
            exact ⟨congrArg (fun z => some (Value.int (bz z))) (show sX5_accepts M x1 x2 x3 = false by unfold sX5_accepts; rw [if_neg c1, if_neg c4, if_neg c7, if_neg c10, if_neg c15, if_pos c16, if_pos c17, if_neg c19, if_neg c21, if_neg c22]).symm, rfl⟩
          · refine aw_iconst (v := 1) dX5_accepts_154 (by decide) ?_
            refine aw_goto 159 dX5_accepts_155 (by decide) ?_
            refine aw_zret dX5_accepts_159 rfl rfl (Nat.zero_le _) (Nat.zero_le _) ?_
            exact ⟨congrArg (fun z => some (Value.int (bz z))) (show sX5_accepts M x1 x2 x3 = true by unfold sX5_accepts; rw [if_neg c1, if_neg c4, if_neg c7, if_neg c10, if_neg c15, if_pos c16, if_pos c17, if_neg c19, if_neg c21, if_pos c22]).symm, rfl⟩
  refine aw_tableOut 160 dX5_accepts_1 (by have ec1 : ¬ (Int32.toInt x1) = 8 := fun z => c1 (Int32.toInt_inj.mp (z.trans rfl)); have ec4 : ¬ (Int32.toInt x1) = 9 := fun z => c4 (Int32.toInt_inj.mp (z.trans rfl)); have ec7 : ¬ (Int32.toInt x1) = 10 := fun z => c7 (Int32.toInt_inj.mp (z.trans rfl)); have ec10 : ¬ (Int32.toInt x1) = 11 := fun z => c10 (Int32.toInt_inj.mp (z.trans rfl)); have ec15 : ¬ (Int32.toInt x1) = 12 := fun z => c15 (Int32.toInt_inj.mp (z.trans rfl)); have ec16 : ¬ (Int32.toInt x1) = 13 := fun z => c16 (Int32.toInt_inj.mp (z.trans rfl)); omega) (by decide) ?_
  refine aw_iload_n dX5_accepts_160 2 rfl ?_
  refine aw_iload_n dX5_accepts_161 1 rfl ?_
  refine aw_callSi [.int x2, .int x1] [] (sp_X0_widens (d := d - 1) (by omega) x2 x1 ) dX5_accepts_162 ml_X5_167 sm_X0_widens rfl (dl1 (d := d) (by omega)) rfl rfl (Nat.le_of_ble_eq_true rfl) rfl rfl (Nat.zero_le _) (Nat.zero_le _) ?_
  refine aw_zret dX5_accepts_165 rfl narrow_bz (Nat.zero_le _) (Nat.zero_le _) ?_
  exact ⟨congrArg (fun z => some (Value.int (bz z))) (show sX5_accepts M x1 x2 x3 = (sX0_widens x2 x1) by unfold sX5_accepts; rw [if_neg c1, if_neg c4, if_neg c7, if_neg c10, if_neg c15, if_neg c16]).symm, rfl⟩
def sX5_putError (M : xM) (x1 : Int32) (x2 : Int32) (x3 : Int32) (x4 : Int64) : Int32 := (if x3 < 0 then -1 else (if 11 < x3 then -1 else (if (bz (sX5_isValue M x3 x4)) = 0 then -1 else (if (sX5_placeError M x1 x2) = 0 then (if (bz (sX5_accepts M (mI M (54 + 3 * x1.toNatClampNeg) 0) x3 x4)) = 0 then -9 else 0) else sX5_placeError M x1 x2))))
theorem sp_X5_putError {d : Nat} (hd : 4 ≤ d) {M : xM} (x1 : Int32) (x2 : Int32) (x3 : Int32) (x4 : Int64) (hT : TC M)  : Sp (fX5_putError d) [.ref 0, .int x1, .int x2, .int x3, .long x4] M (dt (some (.int (sX5_putError M x1 x2 x3 x4))) (M)) := by
  refine Sp.of pn_X5 (Nat.le_of_ble_eq_true rfl) (fun h => Bool.noConfusion h) ?_
  refine aw_iload_n dX5_putError_0 3 rfl ?_
  refine aw_if_lt 20 dX5_putError_1 (by decide) (fun c1 => ?_) (fun c1 => ?_)
  · refine aw_iconst (v := -1) dX5_putError_20 (by decide) ?_
    refine aw_iret dX5_putError_21 rfl (Nat.zero_le _) (Nat.zero_le _) ?_
    exact ⟨congrArg (fun z => some (Value.int z)) (show sX5_putError M x1 x2 x3 x4 = -1 by unfold sX5_putError; rw [if_pos c1]).symm, rfl⟩
  · refine aw_iload_n dX5_putError_4 3 rfl ?_
    refine aw_bipush (v := 11) dX5_putError_5 (by decide) ?_
    refine aw_icmp_gt 20 dX5_putError_7 (by decide) (fun c2 => ?_) (fun c2 => ?_)
    · refine aw_iconst (v := -1) dX5_putError_20 (by decide) ?_
      refine aw_iret dX5_putError_21 rfl (Nat.zero_le _) (Nat.zero_le _) ?_
      exact ⟨congrArg (fun z => some (Value.int z)) (show sX5_putError M x1 x2 x3 x4 = -1 by unfold sX5_putError; rw [if_neg c1, if_pos c2]).symm, rfl⟩
    · refine aw_aload_n dX5_putError_10 0 rfl ?_
      refine aw_iload_n dX5_putError_11 3 rfl ?_
      refine aw_lload dX5_putError_12 4 rfl ?_
      refine aw_callVi [.int x3, .long x4] [] (sp_X5_isValue (d := d - 1) (by omega) x3 x4 hT) dX5_putError_14 ml_X5_302 im_X5_isValue (hT.s 0 (by decide)) (hT.n 0 (by decide)) rfl rfl (dl1 (d := d) (by omega)) rfl rfl (Nat.le_of_ble_eq_true rfl) rfl rfl (Nat.zero_le _) (Nat.zero_le _) ?_
      refine aw_if_ne 22 dX5_putError_17 (by decide) (fun c3 => ?_) (fun c3 => ?_)
      · refine aw_aload_n dX5_putError_22 0 rfl ?_
        refine aw_iload_n dX5_putError_23 1 rfl ?_
        refine aw_iload_n dX5_putError_24 2 rfl ?_
        refine aw_callVi [.int x1, .int x2] [] (sp_X5_placeError (d := d - 1) (by omega) x1 x2 hT) dX5_putError_25 ml_X5_164 im_X5_placeError (hT.s 0 (by decide)) (hT.n 0 (by decide)) rfl rfl (dl1 (d := d) (by omega)) rfl rfl (Nat.le_of_ble_eq_true rfl) rfl rfl (Nat.zero_le _) (Nat.zero_le _) ?_
        refine aw_istore [(6, .int (sX5_placeError M x1 x2)), (0, .ref 0), (1, .int x1), (2, .int x2), (3, .int x3), (4, .long x4)] dX5_putError_28 (Nat.le_of_ble_eq_true rfl) rfl ?_
        refine aw_iload dX5_putError_30 0 rfl ?_
        refine aw_if_eq 38 dX5_putError_32 (by decide) (fun c4 => ?_) (fun c4 => ?_)
        · refine aw_aload_n dX5_putError_38 1 rfl ?_
          refine aw_aload_n dX5_putError_39 1 rfl ?_
          refine aw_getR (b := 1) dX5_putError_40 fl_X5_11 rfl (hT.s 0 (by decide)) (hT.n 0 (by decide)) (hT.r 0 0 (by decide) (by decide)) ?_
          refine aw_iload_n dX5_putError_43 2 rfl ?_
          refine aw_aald (b := 54 + 3 * x1.toNatClampNeg) dX5_putError_44 (hT.s 1 (by decide)) (hT.n 1 (by decide)) (placeE_vp c4) (hT.slot (vp_lt (placeE_vp c4))) ?_
          refine aw_getI dX5_putError_45 fl_X5_98 (hT.row (t := x1.toNatClampNeg) (vp_lt (placeE_vp c4))).1 (hT.row (t := x1.toNatClampNeg) (vp_lt (placeE_vp c4))).n0 ?_
          refine aw_iload_n dX5_putError_48 4 rfl ?_
          refine aw_lload dX5_putError_49 5 rfl ?_
          refine aw_callVi [.int (mI M (54 + 3 * x1.toNatClampNeg) 0), .int x3, .long x4] [] (sp_X5_accepts (d := d - 1) (by omega) (mI M (54 + 3 * x1.toNatClampNeg) 0) x3 x4 hT) dX5_putError_51 ml_X5_305 im_X5_accepts (hT.s 0 (by decide)) (hT.n 0 (by decide)) rfl rfl (dl1 (d := d) (by omega)) rfl rfl (Nat.le_of_ble_eq_true rfl) rfl rfl (Nat.zero_le _) (Nat.zero_le _) ?_
          refine aw_if_eq 61 dX5_putError_54 (by decide) (fun c5 => ?_) (fun c5 => ?_)
          · refine aw_bipush (v := -9) dX5_putError_61 (by decide) ?_
            refine aw_iret dX5_putError_63 rfl (Nat.zero_le _) (Nat.zero_le _) ?_
            exact ⟨congrArg (fun z => some (Value.int z)) (show sX5_putError M x1 x2 x3 x4 = -9 by unfold sX5_putError; rw [if_neg c1, if_neg c2, if_neg c3, if_pos c4, if_pos c5]).symm, rfl⟩
          · refine aw_iconst (v := 0) dX5_putError_57 (by decide) ?_
            refine aw_goto 63 dX5_putError_58 (by decide) ?_
            refine aw_iret dX5_putError_63 rfl (Nat.zero_le _) (Nat.zero_le _) ?_
            exact ⟨congrArg (fun z => some (Value.int z)) (show sX5_putError M x1 x2 x3 x4 = 0 by unfold sX5_putError; rw [if_neg c1, if_neg c2, if_neg c3, if_pos c4, if_neg c5]).symm, rfl⟩
        · refine aw_iload dX5_putError_35 0 rfl ?_
          refine aw_iret dX5_putError_37 rfl (Nat.zero_le _) (Nat.zero_le _) ?_
          exact ⟨congrArg (fun z => some (Value.int z)) (show sX5_putError M x1 x2 x3 x4 = sX5_placeError M x1 x2 by unfold sX5_putError; rw [if_neg c1, if_neg c2, if_neg c3, if_neg c4]).symm, rfl⟩
      · refine aw_iconst (v := -1) dX5_putError_20 (by decide) ?_
        refine aw_iret dX5_putError_21 rfl (Nat.zero_le _) (Nat.zero_le _) ?_
        exact ⟨congrArg (fun z => some (Value.int z)) (show sX5_putError M x1 x2 x3 x4 = -1 by unfold sX5_putError; rw [if_neg c1, if_neg c2, if_pos c3]).symm, rfl⟩
def sX5_kind (M : xM) (x1 : Int32) : Int32 := (if (sX5_slotError M x1) = 0 then mI M (54 + 3 * x1.toNatClampNeg) 0 else sX5_slotError M x1)
theorem sp_X5_kind {d : Nat} (hd : 2 ≤ d) {M : xM} (x1 : Int32) (hT : TC M)  : Sp (fX5_kind d) [.ref 0, .int x1] M (dt (some (.int (sX5_kind M x1))) (M)) := by
  refine Sp.of pn_X5 (Nat.le_of_ble_eq_true rfl) (fun h => Bool.noConfusion h) ?_
  refine aw_aload_n dX5_kind_0 0 rfl ?_
  refine aw_iload_n dX5_kind_1 1 rfl ?_
  refine aw_callVi [.int x1] [] (sp_X5_slotError (d := d - 1) (by omega) x1 hT) dX5_kind_2 ml_X5_94 im_X5_slotError (hT.s 0 (by decide)) (hT.n 0 (by decide)) rfl rfl (dl1 (d := d) (by omega)) rfl rfl (Nat.le_of_ble_eq_true rfl) rfl rfl (Nat.zero_le _) (Nat.zero_le _) ?_
  refine aw_istore_n [(2, .int (sX5_slotError M x1)), (0, .ref 0), (1, .int x1)] dX5_kind_5 (Nat.le_of_ble_eq_true rfl) rfl ?_
  refine aw_iload_n dX5_kind_6 0 rfl ?_
  refine aw_if_eq 14 dX5_kind_7 (by decide) (fun c1 => ?_) (fun c1 => ?_)
  · refine aw_aload_n dX5_kind_14 1 rfl ?_
    refine aw_getR (b := 1) dX5_kind_15 fl_X5_11 rfl (hT.s 0 (by decide)) (hT.n 0 (by decide)) (hT.r 0 0 (by decide) (by decide)) ?_
    refine aw_iload_n dX5_kind_18 2 rfl ?_
    refine aw_aald (b := 54 + 3 * x1.toNatClampNeg) dX5_kind_19 (hT.s 1 (by decide)) (hT.n 1 (by decide)) (slotE_vp c1) (hT.slot (vp_lt (slotE_vp c1))) ?_
    refine aw_getI dX5_kind_20 fl_X5_98 (hT.row (t := x1.toNatClampNeg) (vp_lt (slotE_vp c1))).1 (hT.row (t := x1.toNatClampNeg) (vp_lt (slotE_vp c1))).n0 ?_
    refine aw_iret dX5_kind_23 rfl (Nat.zero_le _) (Nat.zero_le _) ?_
    exact ⟨congrArg (fun z => some (Value.int z)) (show sX5_kind M x1 = mI M (54 + 3 * x1.toNatClampNeg) 0 by unfold sX5_kind; rw [if_pos c1]).symm, rfl⟩
  · refine aw_iload_n dX5_kind_10 0 rfl ?_
    refine aw_goto 23 dX5_kind_11 (by decide) ?_
    refine aw_iret dX5_kind_23 rfl (Nat.zero_le _) (Nat.zero_le _) ?_
    exact ⟨congrArg (fun z => some (Value.int z)) (show sX5_kind M x1 = sX5_slotError M x1 by unfold sX5_kind; rw [if_neg c1]).symm, rfl⟩
def sX5_size (M : xM) (x1 : Int32) : Int32 := (if (sX5_arrayError M x1) = 0 then mI M (54 + 3 * x1.toNatClampNeg) 1 else sX5_arrayError M x1)
theorem sp_X5_size {d : Nat} (hd : 3 ≤ d) {M : xM} (x1 : Int32) (hT : TC M)  : Sp (fX5_size d) [.ref 0, .int x1] M (dt (some (.int (sX5_size M x1))) (M)) := by
  refine Sp.of pn_X5 (Nat.le_of_ble_eq_true rfl) (fun h => Bool.noConfusion h) ?_
  refine aw_aload_n dX5_size_0 0 rfl ?_
  refine aw_iload_n dX5_size_1 1 rfl ?_
  refine aw_callVi [.int x1] [] (sp_X5_arrayError (d := d - 1) (by omega) x1 hT) dX5_size_2 ml_X5_101 im_X5_arrayError (hT.s 0 (by decide)) (hT.n 0 (by decide)) rfl rfl (dl1 (d := d) (by omega)) rfl rfl (Nat.le_of_ble_eq_true rfl) rfl rfl (Nat.zero_le _) (Nat.zero_le _) ?_
  refine aw_istore_n [(2, .int (sX5_arrayError M x1)), (0, .ref 0), (1, .int x1)] dX5_size_5 (Nat.le_of_ble_eq_true rfl) rfl ?_
  refine aw_iload_n dX5_size_6 0 rfl ?_
  refine aw_if_eq 14 dX5_size_7 (by decide) (fun c1 => ?_) (fun c1 => ?_)
  · refine aw_aload_n dX5_size_14 1 rfl ?_
    refine aw_getR (b := 1) dX5_size_15 fl_X5_11 rfl (hT.s 0 (by decide)) (hT.n 0 (by decide)) (hT.r 0 0 (by decide) (by decide)) ?_
    refine aw_iload_n dX5_size_18 2 rfl ?_
    refine aw_aald (b := 54 + 3 * x1.toNatClampNeg) dX5_size_19 (hT.s 1 (by decide)) (hT.n 1 (by decide)) (arrayE_vp c1) (hT.slot (vp_lt (arrayE_vp c1))) ?_
    refine aw_getI dX5_size_20 fl_X5_104 (hT.row (t := x1.toNatClampNeg) (vp_lt (arrayE_vp c1))).1 (hT.row (t := x1.toNatClampNeg) (vp_lt (arrayE_vp c1))).n0 ?_
    refine aw_iret dX5_size_23 rfl (Nat.zero_le _) (Nat.zero_le _) ?_
    exact ⟨congrArg (fun z => some (Value.int z)) (show sX5_size M x1 = mI M (54 + 3 * x1.toNatClampNeg) 1 by unfold sX5_size; rw [if_pos c1]).symm, rfl⟩
  · refine aw_iload_n dX5_size_10 0 rfl ?_
    refine aw_goto 23 dX5_size_11 (by decide) ?_
    refine aw_iret dX5_size_23 rfl (Nat.zero_le _) (Nat.zero_le _) ?_
    exact ⟨congrArg (fun z => some (Value.int z)) (show sX5_size M x1 = sX5_arrayError M x1 by unfold sX5_size; rw [if_neg c1]).symm, rfl⟩
def sX5_went (M : xM) (x1 : Int32) : Int32 := (if x1 < 0 then -1 else (if x1 ≤ 1 then (if x1 = 0 then mI M 0 12 else mI M 0 13) else -1))
theorem sp_X5_went {d : Nat} (hd : 0 ≤ d) {M : xM} (x1 : Int32) (hT : TC M)  : Sp (fX5_went d) [.ref 0, .int x1] M (dt (some (.int (sX5_went M x1))) (M)) := by
  refine Sp.of pn_X5 (Nat.le_of_ble_eq_true rfl) (fun h => Bool.noConfusion h) ?_
  refine aw_iload_n dX5_went_0 1 rfl ?_
  refine aw_if_lt 9 dX5_went_1 (by decide) (fun c1 => ?_) (fun c1 => ?_)
  · refine aw_iconst (v := -1) dX5_went_9 (by decide) ?_
    refine aw_iret dX5_went_10 rfl (Nat.zero_le _) (Nat.zero_le _) ?_
    exact ⟨congrArg (fun z => some (Value.int z)) (show sX5_went M x1 = -1 by unfold sX5_went; rw [if_pos c1]).symm, rfl⟩
  · refine aw_iload_n dX5_went_4 1 rfl ?_
    refine aw_iconst (v := 1) dX5_went_5 (by decide) ?_
    refine aw_icmp_le 11 dX5_went_6 (by decide) (fun c2 => ?_) (fun c2 => ?_)
    · refine aw_iload_n dX5_went_11 1 rfl ?_
      refine aw_if_ne 22 dX5_went_12 (by decide) (fun c3 => ?_) (fun c3 => ?_)
      · refine aw_aload_n dX5_went_22 0 rfl ?_
        refine aw_getI dX5_went_23 fl_X5_74 (hT.s 0 (by decide)) (hT.n 0 (by decide)) ?_
        refine aw_iret dX5_went_26 rfl (Nat.zero_le _) (Nat.zero_le _) ?_
        exact ⟨congrArg (fun z => some (Value.int z)) (show sX5_went M x1 = mI M 0 13 by unfold sX5_went; rw [if_neg c1, if_pos c2, if_neg c3]).symm, rfl⟩
      · refine aw_aload_n dX5_went_15 0 rfl ?_
        refine aw_getI dX5_went_16 fl_X5_71 (hT.s 0 (by decide)) (hT.n 0 (by decide)) ?_
        refine aw_goto 26 dX5_went_19 (by decide) ?_
        refine aw_iret dX5_went_26 rfl (Nat.zero_le _) (Nat.zero_le _) ?_
        exact ⟨congrArg (fun z => some (Value.int z)) (show sX5_went M x1 = mI M 0 12 by unfold sX5_went; rw [if_neg c1, if_pos c2, if_pos c3]).symm, rfl⟩
    · refine aw_iconst (v := -1) dX5_went_9 (by decide) ?_
      refine aw_iret dX5_went_10 rfl (Nat.zero_le _) (Nat.zero_le _) ?_
      exact ⟨congrArg (fun z => some (Value.int z)) (show sX5_went M x1 = -1 by unfold sX5_went; rw [if_neg c1, if_neg c2]).symm, rfl⟩
def sX5_named (x1 : Int64) : Int32 := (if (bz (wrd x1)) = 0 then -1 else knm x1)
theorem sp_X5_named {d : Nat} (hd : 1 ≤ d) {M : xM} (x1 : Int64) (hT : TC M)  : Sp (fX5_named d) [.ref 0, .long x1] M (dt (some (.int (sX5_named x1))) (M)) := by
  refine Sp.of pn_X5 (Nat.le_of_ble_eq_true rfl) (fun h => Bool.noConfusion h) ?_
  refine aw_lload_n dX5_named_0 1 rfl ?_
  refine aw_callSi [.long x1] [] (sp_X5_isWord (d := d - 1) (by omega) x1 ) dX5_named_1 ml_X5_273 sm_X5_isWord rfl (dl1 (d := d) (by omega)) rfl rfl (Nat.le_of_ble_eq_true rfl) rfl rfl (Nat.zero_le _) (Nat.zero_le _) ?_
  refine aw_if_eq 14 dX5_named_4 (by decide) (fun c1 => ?_) (fun c1 => ?_)
  · refine aw_iconst (v := -1) dX5_named_14 (by decide) ?_
    refine aw_iret dX5_named_15 rfl (Nat.zero_le _) (Nat.zero_le _) ?_
    exact ⟨congrArg (fun z => some (Value.int z)) (show sX5_named x1 = -1 by unfold sX5_named; rw [if_pos c1]).symm, rfl⟩
  · refine aw_lload_n dX5_named_7 1 rfl ?_
    refine aw_callSi [.long x1] [] (sp_X5_kindNamed (d := d - 1) (by omega) x1 ) dX5_named_8 ml_X5_277 sm_X5_kindNamed rfl (dl1 (d := d) (by omega)) rfl rfl (Nat.le_of_ble_eq_true rfl) rfl rfl (Nat.zero_le _) (Nat.zero_le _) ?_
    refine aw_goto 15 dX5_named_11 (by decide) ?_
    refine aw_iret dX5_named_15 rfl (Nat.zero_le _) (Nat.zero_le _) ?_
    exact ⟨congrArg (fun z => some (Value.int z)) (show sX5_named x1 = knm x1 by unfold sX5_named; rw [if_neg c1]).symm, rfl⟩
def sX5_mode (M : xM) (x1 : Int32) : Int32 := (if (bz (sX5_isMode x1)) = 0 then -1 else mI M 0 11)
def tX5_mode (M : xM) (x1 : Int32) : xM := (if (bz (sX5_isMode x1)) = 0 then M else (stI M 0 11 x1))
theorem sT_X5_mode (M : xM) (x1 : Int32) : sT M (tX5_mode M x1) := (sT.ite (sT.rf M) ((sT.rf M).tr (sT.I _ _ _ _)))
theorem sp_X5_mode {d : Nat} (hd : 1 ≤ d) {M : xM} (x1 : Int32) (hT : TC M)  : Sp (fX5_mode d) [.ref 0, .int x1] M (dt (some (.int (sX5_mode M x1))) (tX5_mode M x1)) := by
  refine Sp.of pn_X5 (Nat.le_of_ble_eq_true rfl) (fun h => Bool.noConfusion h) ?_
  refine aw_iload_n dX5_mode_0 1 rfl ?_
  refine aw_callSi [.int x1] [] (sp_X5_isMode (d := d - 1) (by omega) x1 ) dX5_mode_1 ml_X5_215 sm_X5_isMode rfl (dl1 (d := d) (by omega)) rfl rfl (Nat.le_of_ble_eq_true rfl) rfl rfl (Nat.zero_le _) (Nat.zero_le _) ?_
  refine aw_if_ne 9 dX5_mode_4 (by decide) (fun c1 => ?_) (fun c1 => ?_)
  · refine aw_aload_n dX5_mode_9 0 rfl ?_
    refine aw_getI dX5_mode_10 fl_X5_68 (hT.s 0 (by decide)) (hT.n 0 (by decide)) ?_
    refine aw_istore_n [(2, .int (mI M 0 11)), (0, .ref 0), (1, .int x1)] dX5_mode_13 (Nat.le_of_ble_eq_true rfl) rfl ?_
    refine aw_aload_n dX5_mode_14 1 rfl ?_
    refine aw_iload_n dX5_mode_15 2 rfl ?_
    refine aw_putI dX5_mode_16 fl_X5_68 (Or.inl rfl) (hT.s 0 (by decide)) (hT.n 0 (by decide)) ?_
    refine aw_iload_n dX5_mode_19 0 rfl ?_
    refine aw_iret dX5_mode_20 rfl (Nat.zero_le _) (Nat.zero_le _) ?_
    exact ⟨congrArg (fun z => some (Value.int z)) (show sX5_mode M x1 = mI M 0 11 by unfold sX5_mode; rw [if_neg c1]).symm, (show tX5_mode M x1 = (stI M 0 11 x1) by unfold tX5_mode; rw [if_neg c1]).symm⟩
  · refine aw_iconst (v := -1) dX5_mode_7 (by decide) ?_
    refine aw_iret dX5_mode_8 rfl (Nat.zero_le _) (Nat.zero_le _) ?_
    exact ⟨congrArg (fun z => some (Value.int z)) (show sX5_mode M x1 = -1 by unfold sX5_mode; rw [if_pos c1]).symm, (show tX5_mode M x1 = M by unfold tX5_mode; rw [if_pos c1]).symm⟩
