-- USABLE
theorem aw_dt {F : xF} {pc : Nat} {lv : List (Nat × Value)} {st : List Value} {M M0 M' : xM} {cs ss : Nat} {r0 r : Option Value} (h : AW F pc lv st M cs ss (dt r0 M0)) (e1 : r0 = r) (e2 : M0 = M') : AW F pc lv st M cs ss (dt r M') := e1 ▸ e2 ▸ h
def usC (o x : Int32) : Nat → Nat → Int32 → Int32
  | 0, _, w => w
  | n + 1, k, w => usC o x n (k + 1) (if (if x = 0 then sX0_widens o (nI k) else sX0_widens (nI k) o) = true then w ||| ((1 : Int32) <<< (nI k &&& 31)) else w)
theorem usC_t {o x : Int32} {k : Nat} (n : Nat) (w : Int32) (h : (if x = 0 then sX0_widens o (nI k) else sX0_widens (nI k) o) = true) : usC o x (n + 1) k w = usC o x n (k + 1) (w ||| ((1 : Int32) <<< (nI k &&& 31))) := by
  show usC o x n (k + 1) (if _ = true then _ else w) = _
  rw [if_pos h]
theorem usC_f {o x : Int32} {k : Nat} (n : Nat) (w : Int32) (h : (if x = 0 then sX0_widens o (nI k) else sX0_widens (nI k) o) = false) : usC o x (n + 1) k w = usC o x n (k + 1) w := by
  show usC o x n (k + 1) (if _ = true then _ else w) = _
  rw [if_neg (by rw [h]; decide)]
def usR (o x : Int32) (p : Bool) : Nat → Nat → Int32 → Int32
  | 0, _, w => w
  | n + 1, k, w => usR o x p n (k + 1) (if (p && (if x = 0 then sX6_turns o (nI k) else sX6_turns (nI k) o)) = true then w + ((1 : Int32) <<< (nI k &&& 31)) else w)
theorem usR_t {o x : Int32} {p : Bool} {k : Nat} (n : Nat) (w : Int32) (h : (p && (if x = 0 then sX6_turns o (nI k) else sX6_turns (nI k) o)) = true) : usR o x p (n + 1) k w = usR o x p n (k + 1) (w + ((1 : Int32) <<< (nI k &&& 31))) := by
  show usR o x p n (k + 1) (if _ = true then _ else w) = _
  rw [if_pos h]
theorem usR_f {o x : Int32} {p : Bool} {k : Nat} (n : Nat) (w : Int32) (h : (p && (if x = 0 then sX6_turns o (nI k) else sX6_turns (nI k) o)) = false) : usR o x p (n + 1) k w = usR o x p n (k + 1) w := by
  show usR o x p n (k + 1) (if _ = true then _ else w) = _
  rw [if_neg (by rw [h]; decide)]
theorem us_eq : ∀ k, k < 14 → ∀ x : Bool, usC (nI k) (bz x) 8 0 0 = usR (nI k) (bz x) (decide (k < 8)) 8 0 0 := by decide +kernel
theorem lp_X5_usable {d : Nat} (hd : 2 ≤ d) {M : xM} (o x1 x2 x3 e : Int32) : ∀ (n i : Nat) (w : Int32), i + n = 8 → AW (fX5_usable d) 44 [(7, .int (nI i)), (6, .int w), (5, .int o), (4, .int e), (0, .ref 0), (1, .int x1), (2, .int x2), (3, .int x3)] [] M 0 0 (dt (some (.int (usC o x3 n i w))) M) := by
  have loop : ∀ (n i : Nat) (w : Int32), i + n = 8 → AW (fX5_usable d) 44 [(7, .int (nI i)), (6, .int w), (5, .int o), (4, .int e), (0, .ref 0), (1, .int x1), (2, .int x2), (3, .int x3)] [] M 0 0 (dt (some (.int (usC o x3 n i w))) M) := by
    intro n
    induction n with
    | zero =>
      intro i w hi 
      refine aw_iload dX5_usable_44 0 rfl ?_
      refine aw_bipush (v := 7) dX5_usable_46 (by decide) ?_
      refine aw_icmp_gtN i 7 94 dX5_usable_48 (by decide) rfl rfl (by omega) (by omega) (fun c1 => ?_) (fun c1 => absurd (by omega) c1)
      refine aw_iload dX5_usable_94 1 rfl ?_
      refine aw_iret dX5_usable_96 rfl (Nat.zero_le _) (Nat.zero_le _) ?_
      exact ⟨rfl, rfl⟩
    | succ n ih =>
      intro i w hi 
      refine aw_iload dX5_usable_44 0 rfl ?_
      refine aw_bipush (v := 7) dX5_usable_46 (by decide) ?_
      refine aw_icmp_gtN i 7 94 dX5_usable_48 (by decide) rfl rfl (by omega) (by omega) (fun c1 => absurd c1 (by omega)) (fun c1 => ?_)
      refine aw_iload_n dX5_usable_51 7 rfl ?_
      refine aw_if_ne 65 dX5_usable_52 (by decide) (fun c2 => ?_) (fun c2 => ?_)
      · refine aw_iload dX5_usable_65 0 rfl ?_
        refine aw_iload dX5_usable_67 2 rfl ?_
        refine aw_callSi [.int (nI i), .int o] [] (sp_X0_widens (d := d - 1) (by omega) (nI i) o ) dX5_usable_69 ml_X5_167 sm_X0_widens rfl (dl1 (d := d) (by omega)) rfl rfl (Nat.le_of_ble_eq_true rfl) rfl rfl (Nat.zero_le _) (Nat.zero_le _) ?_
        refine aw_istore [(8, .int (bz (sX0_widens (nI i) o))), (7, .int (nI i)), (6, .int w), (5, .int o), (4, .int e), (0, .ref 0), (1, .int x1), (2, .int x2), (3, .int x3)] dX5_usable_72 (Nat.le_of_ble_eq_true rfl) rfl ?_
        refine aw_iload dX5_usable_74 0 rfl ?_
        refine aw_if_eq 88 dX5_usable_76 (by decide) (fun c3 => ?_) (fun c3 => ?_)
        · refine aw_iincN i 1 [(7, .int (nI (i + 1))), (8, .int (bz (sX0_widens (nI i) o))), (6, .int w), (5, .int o), (4, .int e), (0, .ref 0), (1, .int x1), (2, .int x2), (3, .int x3)] dX5_usable_88 1 rfl rfl rfl (Nat.le_of_ble_eq_true rfl) rfl ?_
          refine aw_goto 44 dX5_usable_91 (by decide) ?_
          refine aw_sub [0, 2, 3, 4, 5, 6, 7, 8] rfl ?_
          rw [usC_f n w ((if_neg c2).trans (bz_0.mp c3))]
          exact ih (i + 1) w (by omega)
        · refine aw_iload dX5_usable_79 2 rfl ?_
          refine aw_iconst (v := 1) dX5_usable_81 (by decide) ?_
          refine aw_iload dX5_usable_82 1 rfl ?_
          refine aw_ishl dX5_usable_84 ?_
          refine aw_ior dX5_usable_85 ?_
          refine aw_istore [(6, .int (w ||| (1 <<< ((nI i) &&& 31)))), (8, .int (bz (sX0_widens (nI i) o))), (7, .int (nI i)), (5, .int o), (4, .int e), (0, .ref 0), (1, .int x1), (2, .int x2), (3, .int x3)] dX5_usable_86 (Nat.le_of_ble_eq_true rfl) rfl ?_
          refine aw_iincN i 1 [(7, .int (nI (i + 1))), (6, .int (w ||| (1 <<< ((nI i) &&& 31)))), (8, .int (bz (sX0_widens (nI i) o))), (5, .int o), (4, .int e), (0, .ref 0), (1, .int x1), (2, .int x2), (3, .int x3)] dX5_usable_88 2 rfl rfl rfl (Nat.le_of_ble_eq_true rfl) rfl ?_
          refine aw_goto 44 dX5_usable_91 (by decide) ?_
          refine aw_sub [0, 1, 3, 4, 5, 6, 7, 8] rfl ?_
          rw [usC_t n w ((if_neg c2).trans (bz_n0.mp c3))]
          exact ih (i + 1) _ (by omega)
      · refine aw_iload dX5_usable_55 2 rfl ?_
        refine aw_iload dX5_usable_57 0 rfl ?_
        refine aw_callSi [.int o, .int (nI i)] [] (sp_X0_widens (d := d - 1) (by omega) o (nI i) ) dX5_usable_59 ml_X5_167 sm_X0_widens rfl (dl1 (d := d) (by omega)) rfl rfl (Nat.le_of_ble_eq_true rfl) rfl rfl (Nat.zero_le _) (Nat.zero_le _) ?_
        refine aw_goto 72 dX5_usable_62 (by decide) ?_
        refine aw_istore [(8, .int (bz (sX0_widens o (nI i)))), (7, .int (nI i)), (6, .int w), (5, .int o), (4, .int e), (0, .ref 0), (1, .int x1), (2, .int x2), (3, .int x3)] dX5_usable_72 (Nat.le_of_ble_eq_true rfl) rfl ?_
        refine aw_iload dX5_usable_74 0 rfl ?_
        refine aw_if_eq 88 dX5_usable_76 (by decide) (fun c4 => ?_) (fun c4 => ?_)
        · refine aw_iincN i 1 [(7, .int (nI (i + 1))), (8, .int (bz (sX0_widens o (nI i)))), (6, .int w), (5, .int o), (4, .int e), (0, .ref 0), (1, .int x1), (2, .int x2), (3, .int x3)] dX5_usable_88 1 rfl rfl rfl (Nat.le_of_ble_eq_true rfl) rfl ?_
          refine aw_goto 44 dX5_usable_91 (by decide) ?_
          refine aw_sub [0, 2, 3, 4, 5, 6, 7, 8] rfl ?_
          rw [usC_f n w ((if_pos c2).trans (bz_0.mp c4))]
          exact ih (i + 1) w (by omega)
        · refine aw_iload dX5_usable_79 2 rfl ?_
          refine aw_iconst (v := 1) dX5_usable_81 (by decide) ?_
          refine aw_iload dX5_usable_82 1 rfl ?_
          refine aw_ishl dX5_usable_84 ?_
          refine aw_ior dX5_usable_85 ?_
          refine aw_istore [(6, .int (w ||| (1 <<< ((nI i) &&& 31)))), (8, .int (bz (sX0_widens o (nI i)))), (7, .int (nI i)), (5, .int o), (4, .int e), (0, .ref 0), (1, .int x1), (2, .int x2), (3, .int x3)] dX5_usable_86 (Nat.le_of_ble_eq_true rfl) rfl ?_
          refine aw_iincN i 1 [(7, .int (nI (i + 1))), (6, .int (w ||| (1 <<< ((nI i) &&& 31)))), (8, .int (bz (sX0_widens o (nI i)))), (5, .int o), (4, .int e), (0, .ref 0), (1, .int x1), (2, .int x2), (3, .int x3)] dX5_usable_88 2 rfl rfl rfl (Nat.le_of_ble_eq_true rfl) rfl ?_
          refine aw_goto 44 dX5_usable_91 (by decide) ?_
          refine aw_sub [0, 1, 3, 4, 5, 6, 7, 8] rfl ?_
          rw [usC_t n w ((if_pos c2).trans (bz_n0.mp c4))]
          exact ih (i + 1) _ (by omega)
  exact loop
def sX5_usable (M : xM) (x1 : Int32) (x2 : Int32) (x3 : Int32) : Int32 := (if x3 < 0 then -1 else (if x3 ≤ 1 then (if (sX5_placeError M x1 x2) = 0 then usC (mI M (54 + 3 * x1.toNatClampNeg) 0) x3 8 0 0 else sX5_placeError M x1 x2) else -1))
theorem sp_X5_usable {d : Nat} (hd : 4 ≤ d) {M : xM} (x1 : Int32) (x2 : Int32) (x3 : Int32) (hT : TC M)  : Sp (fX5_usable d) [.ref 0, .int x1, .int x2, .int x3] M (dt (some (.int (sX5_usable M x1 x2 x3))) (M)) := by
  refine Sp.of pn_X5 (Nat.le_of_ble_eq_true rfl) (fun h => Bool.noConfusion h) ?_
  refine aw_iload_n dX5_usable_0 3 rfl ?_
  refine aw_if_lt 9 dX5_usable_1 (by decide) (fun c1 => ?_) (fun c1 => ?_)
  · refine aw_iconst (v := -1) dX5_usable_9 (by decide) ?_
    refine aw_iret dX5_usable_10 rfl (Nat.zero_le _) (Nat.zero_le _) ?_
    exact ⟨congrArg (fun z => some (Value.int z)) (show sX5_usable M x1 x2 x3 = -1 by unfold sX5_usable; rw [if_pos c1]).symm, rfl⟩
  · refine aw_iload_n dX5_usable_4 3 rfl ?_
    refine aw_iconst (v := 1) dX5_usable_5 (by decide) ?_
    refine aw_icmp_le 11 dX5_usable_6 (by decide) (fun c2 => ?_) (fun c2 => ?_)
    · refine aw_aload_n dX5_usable_11 0 rfl ?_
      refine aw_iload_n dX5_usable_12 1 rfl ?_
      refine aw_iload_n dX5_usable_13 2 rfl ?_
      refine aw_callVi [.int x1, .int x2] [] (sp_X5_placeError (d := d - 1) (by omega) x1 x2 hT) dX5_usable_14 ml_X5_164 im_X5_placeError (hT.s 0 (by decide)) (hT.n 0 (by decide)) rfl rfl (dl1 (d := d) (by omega)) rfl rfl (Nat.le_of_ble_eq_true rfl) rfl rfl (Nat.zero_le _) (Nat.zero_le _) ?_
      refine aw_istore [(4, .int (sX5_placeError M x1 x2)), (0, .ref 0), (1, .int x1), (2, .int x2), (3, .int x3)] dX5_usable_17 (Nat.le_of_ble_eq_true rfl) rfl ?_
      refine aw_iload dX5_usable_19 0 rfl ?_
      refine aw_if_eq 27 dX5_usable_21 (by decide) (fun c3 => ?_) (fun c3 => ?_)
      · refine aw_aload_n dX5_usable_27 1 rfl ?_
        refine aw_getR (b := 1) dX5_usable_28 fl_X5_11 rfl (hT.s 0 (by decide)) (hT.n 0 (by decide)) (hT.r 0 0 (by decide) (by decide)) ?_
        refine aw_iload_n dX5_usable_31 2 rfl ?_
        refine aw_aald (b := 54 + 3 * x1.toNatClampNeg) dX5_usable_32 (hT.s 1 (by decide)) (hT.n 1 (by decide)) (placeE_vp c3) (hT.slot (vp_lt (placeE_vp c3))) ?_
        refine aw_getI dX5_usable_33 fl_X5_98 (hT.row (t := x1.toNatClampNeg) (vp_lt (placeE_vp c3))).1 (hT.row (t := x1.toNatClampNeg) (vp_lt (placeE_vp c3))).n0 ?_
        refine aw_istore [(5, .int (mI M (54 + 3 * x1.toNatClampNeg) 0)), (4, .int (sX5_placeError M x1 x2)), (0, .ref 0), (1, .int x1), (2, .int x2), (3, .int x3)] dX5_usable_36 (Nat.le_of_ble_eq_true rfl) rfl ?_
        refine aw_iconst (v := 0) dX5_usable_38 (by decide) ?_
        refine aw_istore [(6, .int 0), (5, .int (mI M (54 + 3 * x1.toNatClampNeg) 0)), (4, .int (sX5_placeError M x1 x2)), (0, .ref 0), (1, .int x1), (2, .int x2), (3, .int x3)] dX5_usable_39 (Nat.le_of_ble_eq_true rfl) rfl ?_
        refine aw_iconst (v := 0) dX5_usable_41 (by decide) ?_
        refine aw_istore [(7, .int 0), (6, .int 0), (5, .int (mI M (54 + 3 * x1.toNatClampNeg) 0)), (4, .int (sX5_placeError M x1 x2)), (0, .ref 0), (1, .int x1), (2, .int x2), (3, .int x3)] dX5_usable_42 (Nat.le_of_ble_eq_true rfl) rfl ?_
        refine aw_dt (lp_X5_usable (by omega) (mI M (54 + 3 * x1.toNatClampNeg) 0) x1 x2 x3 (sX5_placeError M x1 x2) 8 0 0 (by omega)) (congrArg (fun z => some (Value.int z)) (show sX5_usable M x1 x2 x3 = usC (mI M (54 + 3 * x1.toNatClampNeg) 0) x3 8 0 0 by unfold sX5_usable; rw [if_neg c1, if_pos c2, if_pos c3]).symm) (rfl)
      · refine aw_iload dX5_usable_24 0 rfl ?_
        refine aw_iret dX5_usable_26 rfl (Nat.zero_le _) (Nat.zero_le _) ?_
        exact ⟨congrArg (fun z => some (Value.int z)) (show sX5_usable M x1 x2 x3 = sX5_placeError M x1 x2 by unfold sX5_usable; rw [if_neg c1, if_pos c2, if_neg c3]).symm, rfl⟩
    · refine aw_iconst (v := -1) dX5_usable_9 (by decide) ?_
      refine aw_iret dX5_usable_10 rfl (Nat.zero_le _) (Nat.zero_le _) ?_
      exact ⟨congrArg (fun z => some (Value.int z)) (show sX5_usable M x1 x2 x3 = -1 by unfold sX5_usable; rw [if_neg c1, if_neg c2]).symm, rfl⟩
theorem lp_X6_usable {d : Nat} (hd : 1 ≤ d) {M : xM} (hT : TR M) (x1 x2 x3 e : Int32) (hx1 : vp_in x1 24) : ∀ (n i : Nat) (w : Int32), i + n = 8 → AW (fX6_usable d) 54 [(6, .int (nI i)), (5, .int w), (4, .int e), (0, .ref 0), (1, .int x1), (2, .int x2), (3, .int x3)] [] M 0 0 (dt (some (.int (usR (mI M 1 x1.toNatClampNeg) x3 (sX6_isPlain M x1) n i w))) M) := by
  have loop : ∀ (n i : Nat) (w : Int32), i + n = 8 → AW (fX6_usable d) 54 [(6, .int (nI i)), (5, .int w), (4, .int e), (0, .ref 0), (1, .int x1), (2, .int x2), (3, .int x3)] [] M 0 0 (dt (some (.int (usR (mI M 1 x1.toNatClampNeg) x3 (sX6_isPlain M x1) n i w))) M) := by
    intro n
    induction n with
    | zero =>
      intro i w hi 
      refine aw_iload dX6_usable_54 0 rfl ?_
      refine aw_bipush (v := 8) dX6_usable_56 (by decide) ?_
      refine aw_icmp_geN i 8 119 dX6_usable_58 (by decide) rfl rfl (by omega) (by omega) (fun c1 => ?_) (fun c1 => absurd (by omega) c1)
      refine aw_iload dX6_usable_119 1 rfl ?_
      refine aw_iret dX6_usable_121 rfl (Nat.zero_le _) (Nat.zero_le _) ?_
      exact ⟨rfl, rfl⟩
    | succ n ih =>
      intro i w hi 
      refine aw_iload dX6_usable_54 0 rfl ?_
      refine aw_bipush (v := 8) dX6_usable_56 (by decide) ?_
      refine aw_icmp_geN i 8 119 dX6_usable_58 (by decide) rfl rfl (by omega) (by omega) (fun c1 => absurd c1 (by omega)) (fun c1 => ?_)
      refine aw_aload_n dX6_usable_61 3 rfl ?_
      refine aw_iload_n dX6_usable_62 4 rfl ?_
      refine aw_callVi [.int x1] [] (sp_X6_isPlain (d := d - 1) (by omega) x1 hT hx1) dX6_usable_63 ml_X6_183 im_X6_isPlain (hT.s 0 (by decide)) (hT.n 0 (by decide)) rfl rfl (dl1 (d := d) (by omega)) rfl rfl (Nat.le_of_ble_eq_true rfl) rfl rfl (Nat.zero_le _) (Nat.zero_le _) ?_
      refine aw_if_eq 113 dX6_usable_66 (by decide) (fun c2 => ?_) (fun c2 => ?_)
      · refine aw_iincN i 1 [(6, .int (nI (i + 1))), (5, .int w), (4, .int e), (0, .ref 0), (1, .int x1), (2, .int x2), (3, .int x3)] dX6_usable_113 0 rfl rfl rfl (Nat.le_of_ble_eq_true rfl) rfl ?_
        refine aw_goto 54 dX6_usable_116 (by decide) ?_
        rw [usR_f n w (show (sX6_isPlain M x1 && _) = false by rw [bz_0.mp c2]; rfl)]
        exact ih (i + 1) w (by omega)
      · refine aw_iload_n dX6_usable_69 6 rfl ?_
        refine aw_if_ne 90 dX6_usable_70 (by decide) (fun c3 => ?_) (fun c3 => ?_)
        · refine aw_iload dX6_usable_90 0 rfl ?_
          refine aw_aload_n dX6_usable_92 3 rfl ?_
          refine aw_getR (b := 1) dX6_usable_93 fl_X6_7 rfl (hT.s 0 (by decide)) (hT.n 0 (by decide)) (hT.r 0) ?_
          refine aw_iload_n dX6_usable_96 4 rfl ?_
          refine aw_iald dX6_usable_97 (hT.s 1 (by decide)) (hT.n 1 (by decide)) hx1 ?_
          refine aw_callSi [.int (nI i), .int (mI M 1 x1.toNatClampNeg)] [] (sp_X6_turns (d := d - 1) (by omega) (nI i) (mI M 1 x1.toNatClampNeg) ) dX6_usable_98 ml_X6_128 sm_X6_turns rfl (dl1 (d := d) (by omega)) rfl rfl (Nat.le_of_ble_eq_true rfl) rfl rfl (Nat.zero_le _) (Nat.zero_le _) ?_
          refine aw_if_eq 113 dX6_usable_101 (by decide) (fun c4 => ?_) (fun c4 => ?_)
          · refine aw_iincN i 1 [(6, .int (nI (i + 1))), (5, .int w), (4, .int e), (0, .ref 0), (1, .int x1), (2, .int x2), (3, .int x3)] dX6_usable_113 0 rfl rfl rfl (Nat.le_of_ble_eq_true rfl) rfl ?_
            refine aw_goto 54 dX6_usable_116 (by decide) ?_
            rw [usR_f n w (show (sX6_isPlain M x1 && _) = false by rw [show (if x3 = 0 then _ else _) = _ from if_neg c3, bz_0.mp c4, Bool.and_false])]
            exact ih (i + 1) w (by omega)
          · refine aw_iload dX6_usable_104 1 rfl ?_
            refine aw_iconst (v := 1) dX6_usable_106 (by decide) ?_
            refine aw_iload dX6_usable_107 0 rfl ?_
            refine aw_ishl dX6_usable_109 ?_
            refine aw_iadd dX6_usable_110 ?_
            refine aw_istore [(5, .int (w + (1 <<< ((nI i) &&& 31)))), (6, .int (nI i)), (4, .int e), (0, .ref 0), (1, .int x1), (2, .int x2), (3, .int x3)] dX6_usable_111 (Nat.le_of_ble_eq_true rfl) rfl ?_
            refine aw_iincN i 1 [(6, .int (nI (i + 1))), (5, .int (w + (1 <<< ((nI i) &&& 31)))), (4, .int e), (0, .ref 0), (1, .int x1), (2, .int x2), (3, .int x3)] dX6_usable_113 1 rfl rfl rfl (Nat.le_of_ble_eq_true rfl) rfl ?_
            refine aw_goto 54 dX6_usable_116 (by decide) ?_
            rw [usR_t n w (show (sX6_isPlain M x1 && _) = true by rw [show (if x3 = 0 then _ else _) = _ from if_neg c3, bz_n0.mp c4, bz_n0.mp c2]; rfl)]
            exact ih (i + 1) _ (by omega)
        · refine aw_aload_n dX6_usable_73 3 rfl ?_
          refine aw_getR (b := 1) dX6_usable_74 fl_X6_7 rfl (hT.s 0 (by decide)) (hT.n 0 (by decide)) (hT.r 0) ?_
          refine aw_iload_n dX6_usable_77 4 rfl ?_
          refine aw_iald dX6_usable_78 (hT.s 1 (by decide)) (hT.n 1 (by decide)) hx1 ?_
          refine aw_iload dX6_usable_79 0 rfl ?_
          refine aw_callSi [.int (mI M 1 x1.toNatClampNeg), .int (nI i)] [] (sp_X6_turns (d := d - 1) (by omega) (mI M 1 x1.toNatClampNeg) (nI i) ) dX6_usable_81 ml_X6_128 sm_X6_turns rfl (dl1 (d := d) (by omega)) rfl rfl (Nat.le_of_ble_eq_true rfl) rfl rfl (Nat.zero_le _) (Nat.zero_le _) ?_
          refine aw_if_eq 113 dX6_usable_84 (by decide) (fun c5 => ?_) (fun c5 => ?_)
          · refine aw_iincN i 1 [(6, .int (nI (i + 1))), (5, .int w), (4, .int e), (0, .ref 0), (1, .int x1), (2, .int x2), (3, .int x3)] dX6_usable_113 0 rfl rfl rfl (Nat.le_of_ble_eq_true rfl) rfl ?_
            refine aw_goto 54 dX6_usable_116 (by decide) ?_
            rw [usR_f n w (show (sX6_isPlain M x1 && _) = false by rw [show (if x3 = 0 then _ else _) = _ from if_pos c3, bz_0.mp c5, Bool.and_false])]
            exact ih (i + 1) w (by omega)
          · refine aw_goto 104 dX6_usable_87 (by decide) ?_
            refine aw_iload dX6_usable_104 1 rfl ?_
            refine aw_iconst (v := 1) dX6_usable_106 (by decide) ?_
            refine aw_iload dX6_usable_107 0 rfl ?_
            refine aw_ishl dX6_usable_109 ?_
            refine aw_iadd dX6_usable_110 ?_
            refine aw_istore [(5, .int (w + (1 <<< ((nI i) &&& 31)))), (6, .int (nI i)), (4, .int e), (0, .ref 0), (1, .int x1), (2, .int x2), (3, .int x3)] dX6_usable_111 (Nat.le_of_ble_eq_true rfl) rfl ?_
            refine aw_iincN i 1 [(6, .int (nI (i + 1))), (5, .int (w + (1 <<< ((nI i) &&& 31)))), (4, .int e), (0, .ref 0), (1, .int x1), (2, .int x2), (3, .int x3)] dX6_usable_113 1 rfl rfl rfl (Nat.le_of_ble_eq_true rfl) rfl ?_
            refine aw_goto 54 dX6_usable_116 (by decide) ?_
            rw [usR_t n w (show (sX6_isPlain M x1 && _) = true by rw [show (if x3 = 0 then _ else _) = _ from if_pos c3, bz_n0.mp c5, bz_n0.mp c2]; rfl)]
            exact ih (i + 1) _ (by omega)
  exact loop
def sX6_usable (M : xM) (x1 : Int32) (x2 : Int32) (x3 : Int32) : Int32 := (if (bz (sX6_isThing (Int32.toInt64 x1))) = 0 then -1 else (if (bz (sX6_isIn (Int32.toInt64 x3) 0 1)) = 0 then -1 else (if 0 ≤ (sX6_refusal M x1) then (if (bz (sX6_isPlace M x1 (Int32.toInt64 x2))) = 0 then -8 else usR (mI M 1 x1.toNatClampNeg) x3 (sX6_isPlain M x1) 8 0 0) else sX6_refusal M x1)))
theorem sp_X6_usable {d : Nat} (hd : 2 ≤ d) {M : xM} (x1 : Int32) (x2 : Int32) (x3 : Int32) (hT : TR M)  (hZ : LenR M) : Sp (fX6_usable d) [.ref 0, .int x1, .int x2, .int x3] M (dt (some (.int (sX6_usable M x1 x2 x3))) (M)) := by
  refine Sp.of pn_X6 (Nat.le_of_ble_eq_true rfl) (fun h => Bool.noConfusion h) ?_
  refine aw_iload_n dX6_usable_0 1 rfl ?_
  refine aw_i2l dX6_usable_1 ?_
  refine aw_callSi [.long (Int32.toInt64 x1)] [] (sp_X6_isThing (d := d - 1) (by omega) (Int32.toInt64 x1) ) dX6_usable_2 ml_X6_159 sm_X6_isThing rfl (dl1 (d := d) (by omega)) rfl rfl (Nat.le_of_ble_eq_true rfl) rfl rfl (Nat.zero_le _) (Nat.zero_le _) ?_
  refine aw_if_eq 18 dX6_usable_5 (by decide) (fun c1 => ?_) (fun c1 => ?_)
  · refine aw_iconst (v := -1) dX6_usable_18 (by decide) ?_
    refine aw_iret dX6_usable_19 rfl (Nat.zero_le _) (Nat.zero_le _) ?_
    exact ⟨congrArg (fun z => some (Value.int z)) (show sX6_usable M x1 x2 x3 = -1 by unfold sX6_usable; rw [if_pos c1]).symm, rfl⟩
  · refine aw_iload_n dX6_usable_8 3 rfl ?_
    refine aw_i2l dX6_usable_9 ?_
    refine aw_lconst (v := 0) dX6_usable_10 (by decide) ?_
    refine aw_lconst (v := 1) dX6_usable_11 (by decide) ?_
    refine aw_callSi [.long (Int32.toInt64 x3), .long 0, .long 1] [] (sp_X6_isIn (d := d - 1) (by omega) (Int32.toInt64 x3) 0 1 ) dX6_usable_12 ml_X6_73 sm_X6_isIn rfl (dl1 (d := d) (by omega)) rfl rfl (Nat.le_of_ble_eq_true rfl) rfl rfl (Nat.zero_le _) (Nat.zero_le _) ?_
    refine aw_if_ne 20 dX6_usable_15 (by decide) (fun c2 => ?_) (fun c2 => ?_)
    · refine aw_aload_n dX6_usable_20 0 rfl ?_
      refine aw_iload_n dX6_usable_21 1 rfl ?_
      refine aw_callVi [.int x1] [] (sp_X6_refusal (d := d - 1) (by omega) x1 hT (thing_vp c1)) dX6_usable_22 ml_X6_162 im_X6_refusal (hT.s 0 (by decide)) (hT.n 0 (by decide)) rfl rfl (dl1 (d := d) (by omega)) rfl rfl (Nat.le_of_ble_eq_true rfl) rfl rfl (Nat.zero_le _) (Nat.zero_le _) ?_
      refine aw_istore [(4, .int (sX6_refusal M x1)), (0, .ref 0), (1, .int x1), (2, .int x2), (3, .int x3)] dX6_usable_25 (Nat.le_of_ble_eq_true rfl) rfl ?_
      refine aw_iload dX6_usable_27 0 rfl ?_
      refine aw_if_ge 35 dX6_usable_29 (by decide) (fun c3 => ?_) (fun c3 => ?_)
      · refine aw_aload_n dX6_usable_35 1 rfl ?_
        refine aw_iload_n dX6_usable_36 2 rfl ?_
        refine aw_iload_n dX6_usable_37 3 rfl ?_
        refine aw_i2l dX6_usable_38 ?_
        refine aw_callVi [.int x1, .long (Int32.toInt64 x2)] [] (sp_X6_isPlace (d := d - 1) (by omega) x1 (Int32.toInt64 x2) hT (thing_vp c1)) dX6_usable_39 ml_X6_186 im_X6_isPlace (hT.s 0 (by decide)) (hT.n 0 (by decide)) rfl rfl (dl1 (d := d) (by omega)) rfl rfl (Nat.le_of_ble_eq_true rfl) rfl rfl (Nat.zero_le _) (Nat.zero_le _) ?_
        refine aw_if_ne 48 dX6_usable_42 (by decide) (fun c4 => ?_) (fun c4 => ?_)
        · refine aw_iconst (v := 0) dX6_usable_48 (by decide) ?_
          refine aw_istore [(5, .int 0), (4, .int (sX6_refusal M x1)), (0, .ref 0), (1, .int x1), (2, .int x2), (3, .int x3)] dX6_usable_49 (Nat.le_of_ble_eq_true rfl) rfl ?_
          refine aw_iconst (v := 0) dX6_usable_51 (by decide) ?_
          refine aw_istore [(6, .int 0), (5, .int 0), (4, .int (sX6_refusal M x1)), (0, .ref 0), (1, .int x1), (2, .int x2), (3, .int x3)] dX6_usable_52 (Nat.le_of_ble_eq_true rfl) rfl ?_
          refine aw_dt (lp_X6_usable (by omega) hT x1 x2 x3 (sX6_refusal M x1) (thing_vp c1) 8 0 0 (by omega)) (congrArg (fun z => some (Value.int z)) (show sX6_usable M x1 x2 x3 = usR (mI M 1 x1.toNatClampNeg) x3 (sX6_isPlain M x1) 8 0 0 by unfold sX6_usable; rw [if_neg c1, if_neg c2, if_pos c3, if_neg c4]).symm) (rfl)
        · refine aw_bipush (v := -8) dX6_usable_45 (by decide) ?_
          refine aw_iret dX6_usable_47 rfl (Nat.zero_le _) (Nat.zero_le _) ?_
          exact ⟨congrArg (fun z => some (Value.int z)) (show sX6_usable M x1 x2 x3 = -8 by unfold sX6_usable; rw [if_neg c1, if_neg c2, if_pos c3, if_pos c4]).symm, rfl⟩
      · refine aw_iload dX6_usable_32 0 rfl ?_
        refine aw_iret dX6_usable_34 rfl (Nat.zero_le _) (Nat.zero_le _) ?_
        exact ⟨congrArg (fun z => some (Value.int z)) (show sX6_usable M x1 x2 x3 = sX6_refusal M x1 by unfold sX6_usable; rw [if_neg c1, if_neg c2, if_neg c3]).symm, rfl⟩
    · refine aw_iconst (v := -1) dX6_usable_18 (by decide) ?_
      refine aw_iret dX6_usable_19 rfl (Nat.zero_le _) (Nat.zero_le _) ?_
      exact ⟨congrArg (fun z => some (Value.int z)) (show sX6_usable M x1 x2 x3 = -1 by unfold sX6_usable; rw [if_neg c1, if_pos c2]).symm, rfl⟩
theorem plain_of {MR : xM} {k t : Nat} (ht : t < 12) (hk : k < 14) (h4 : mI MR 1 t = kdI k) : sX6_isPlain MR (nI t) = decide (k < 8) := by
  unfold sX6_isPlain
  rw [nI_clamp (by omega), h4, kdI_lt (by omega)]
  have hd := kdI_dec _ (show k < 16 by omega)
  by_cases q : k < 8
  · rw [if_neg (fun z => absurd (hd.2.2.2.mp z) (by omega)), decide_eq_true q]
  · rw [if_pos (hd.2.2.2.mpr (by omega)), decide_eq_false q]
theorem fc_usable : Fc_usable Rel := by
  intro a0 a1 a2 MC MR hR
  refine fcI (sp_X5_usable (by decide) a0 a1 a2 hR.1) (sp_X6_usable (by decide) a0 a1 a2 hR.2.1 hR.2.2.1) ?_ hR
  have h01 : (a2 < 0 ∧ sX6_isIn a2.toInt64 0 1 = false) ∨ (¬ a2 < 0 ∧ 1 < a2 ∧ sX6_isIn a2.toInt64 0 1 = false) ∨ (∃ b : Bool, a2 = bz b ∧ ¬ a2 < 0 ∧ ¬ 1 < a2 ∧ sX6_isIn a2.toInt64 0 1 = true) := by
    have e0 : (0 : Int64).toInt = 0 := rfl
    have e1 : (1 : Int64).toInt = 1 := rfl
    have f0 : (0 : Int32).toInt = 0 := rfl
    have f1 : (1 : Int32).toInt = 1 := rfl
    have k0 : (a2.toInt64 < 0) ↔ a2 < 0 := by rw [Int64.lt_iff_toInt_lt, Int32.lt_iff_toInt_lt, Int32.toInt_toInt64, e0, f0]
    have k1 : ((1 : Int64) < a2.toInt64) ↔ 1 < a2 := by rw [Int64.lt_iff_toInt_lt, Int32.lt_iff_toInt_lt, Int32.toInt_toInt64, e1, f1]
    unfold sX6_isIn
    by_cases c1 : a2 < 0
    · exact Or.inl ⟨c1, if_pos (k0.mpr c1)⟩
    · by_cases c2 : 1 < a2
      · exact Or.inr (Or.inl ⟨c1, c2, by rw [if_neg (fun z => c1 (k0.mp z)), if_pos (k1.mpr c2)]⟩)
      · refine Or.inr (Or.inr ?_)
        have g1 : ¬ a2.toInt < (0 : Int) := fun z => c1 (Int32.lt_iff_toInt_lt.mpr z)
        have g2 : ¬ (1 : Int) < a2.toInt := fun z => c2 (Int32.lt_iff_toInt_lt.mpr z)
        have e3 : sX6_isIn a2.toInt64 0 1 = true := by unfold sX6_isIn; rw [if_neg (fun z => c1 (k0.mp z)), if_neg (fun z => c2 (k1.mp z))]
        by_cases c3 : a2.toInt = 0
        · exact ⟨false, Int32.toInt_inj.mp (c3.trans rfl), c1, c2, e3⟩
        · exact ⟨true, Int32.toInt_inj.mp ((show a2.toInt = 1 by omega).trans rfl), c1, c2, e3⟩
  obtain ⟨hT, -, -, ⟨κ, ζ, hS⟩, -⟩ := hR
  rcases h01 with ⟨c1, c2⟩ | ⟨c1, c2, c3⟩ | ⟨b, hb, c1, c2, c3⟩
  · unfold sX5_usable sX6_usable
    rw [if_pos c1, c2]
    by_cases q : bz (sX6_isThing a0.toInt64) = 0
    · rw [if_pos q]
    · rw [if_neg q]; rfl
  · unfold sX5_usable sX6_usable
    rw [if_neg c1, if_neg (Int32.not_le.mpr c2), c3]
    by_cases q : bz (sX6_isThing a0.toInt64) = 0
    · rw [if_pos q]
    · rw [if_neg q]; rfl
  · unfold sX5_usable sX6_usable
    rw [if_neg c1, if_pos (Int32.not_lt.mp c2), c3]
    rcases slot_cases a0 with ⟨s1, s2⟩ | ⟨t, ht, rfl, s1, s2⟩
    · rw [s2]
      unfold sX5_placeError sX5_arrayError sX5_slotError
      rw [s1]
      rfl
    · have hT' := hS t ht
      have e := placeE_of ht hT' s1 a1
      have e2 := refusal_of ht hT'
      by_cases c : eA (κ t) = 0
      · have h1 := hT'.1
        have hk : κ t < 14 := by rcases eA_0 c with q | q <;> omega
        have e3 := isPlace_of ht hT' (by omega) a1
        obtain ⟨-, h2, h3, h4, -⟩ := hT'
        have hp := plain_of ht hk h4
        rw [if_pos c] at e
        rw [e, s2, e2, c, e3, nI_clamp (by omega), h3, h4, kdI_lt (by omega), hp, hb, us_eq _ hk]
        cases sX2_hasPlace MC (54 + 3 * t) a1 <;> rfl
      · rw [if_neg c] at e
        rw [e, s2, e2]
        rcases eA_neg (κ t) with q | q | q
        · exact absurd q c
        · rw [q]; rfl
        · rw [q]; rfl
