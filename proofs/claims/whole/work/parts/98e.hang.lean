-- HANGS, DROP, GATHER, FAR: contracts
def sbI (p : Nat → Bool) : Nat → Int32
  | 0 => 0
  | n + 1 => if p n = true then sbI p n ||| ((1 : Int32) <<< (nI n &&& 31)) else sbI p n
theorem sbI_n (p : Nat → Bool) : ∀ n, n ≤ 12 → SB (sbI p n) (fun k => decide (k < n) && p k)
  | 0, _ => SB.z.co (fun k _ => rfl)
  | n + 1, h => by
    have ih := sbI_n p n (by omega)
    unfold sbI
    by_cases c : p n = true
    · rw [if_pos c]
      refine (ih.or (SB.one (t := n) (by omega))).co (fun k _ => ?_)
      show (decide (k < n) && p k || decide (k = n)) = (decide (k < n + 1) && p k)
      by_cases e : k = n
      · subst e; rw [c, decide_eq_true rfl, decide_eq_true (by omega : k < k + 1), Bool.or_true]; rfl
      · rw [decide_eq_false e, Bool.or_false]
        congr 1
        exact decide_eq_decide.mpr (by omega)
    · rw [if_neg c]
      refine ih.co (fun k _ => ?_)
      show (decide (k < n) && p k) = (decide (k < n + 1) && p k)
      by_cases e : k = n
      · subst e; rw [show p k = false from Bool.eq_false_iff.mpr c, Bool.and_false, Bool.and_false]
      · congr 1
        exact decide_eq_decide.mpr (by omega)
theorem sbI_SB (p : Nat → Bool) : SB (sbI p 12) p := (sbI_n p 12 (by omega)).co (fun k hk => by rw [decide_eq_true hk, Bool.true_and])
def szC (M : xM) (t : Nat) : Nat := (mI M (54 + 3 * t) 1).toNatClampNeg
theorem szC_L {M : xM} (hZ : LnC M) : LenC M (szC M) := by
  intro t ht
  obtain ⟨z, hz, e⟩ := hZ t ht
  unfold szC
  rw [e, nI_clamp (by omega)]
  exact ⟨rfl, hz⟩
def sX6_hanging (M : xM) (x1 : Int32) : Int32 := sbI (hgP (lkR M) 12 (fun k => decide (k = x1.toNatClampNeg))) 12
theorem sp_X6_hangingI {d : Nat} (hd : 1 ≤ d) {M : xM} (x1 : Int32) (hT : TR M) (hZ : LenR M) (h : vp_in x1 12) : Sp (fX6_hanging d) [.ref 0, .int x1] M (dt (some (.int (sX6_hanging M x1))) M) := by
  obtain ⟨e, b⟩ := nI_cl h
  have q := sp_X6_hanging hd x1.toNatClampNeg hT hZ b (L := lkR M) (fun _ _ _ _ => rfl) (sbI_SB _)
  rw [← e] at q
  exact q
abbrev lkC (M : xM) (t : Nat) : Int32 := lkF M (54 + 3 * t) (szC M t) 0 0
abbrev laC (M : xM) (s : Int32) : Int32 := laF M (szC M) s 12 0 0
def sX5_hangs (M : xM) (x1 : Int32) : Int32 := (if (sX5_slotError M x1) = 0 then hgF M (szC M) 12 ((1 : Int32) <<< (x1 &&& 31)) else sX5_slotError M x1)
theorem sp_X5_hangs {d : Nat} (hd : 3 ≤ d) {M : xM} (x1 : Int32) (hT : TC M) (hZ : LnC M) : Sp (fX5_hangs d) [.ref 0, .int x1] M (dt (some (.int (sX5_hangs M x1))) (M)) := by
  refine Sp.of pn_X5 (Nat.le_of_ble_eq_true rfl) (fun h => Bool.noConfusion h) ?_
  refine aw_aload_n dX5_hangs_0 0 rfl ?_
  refine aw_iload_n dX5_hangs_1 1 rfl ?_
  refine aw_callVi [.int x1] [] (sp_X5_slotError (d := d - 1) (by omega) x1 hT) dX5_hangs_2 ml_X5_94 im_X5_slotError (hT.s 0 (by decide)) (hT.n 0 (by decide)) rfl rfl (dl1 (d := d) (by omega)) rfl rfl (Nat.le_of_ble_eq_true rfl) rfl rfl (Nat.zero_le _) (Nat.zero_le _) ?_
  refine aw_istore_n [(2, .int (sX5_slotError M x1)), (0, .ref 0), (1, .int x1)] dX5_hangs_5 (Nat.le_of_ble_eq_true rfl) rfl ?_
  refine aw_iload_n dX5_hangs_6 0 rfl ?_
  refine aw_if_eq 14 dX5_hangs_7 (by decide) (fun c1 => ?_) (fun c1 => ?_)
  · refine aw_aload_n dX5_hangs_14 1 rfl ?_
    refine aw_iload_n dX5_hangs_15 2 rfl ?_
    refine aw_callVi [.int x1] [] (sp_X5_hangingOn (d := d - 1) (by omega) x1 (szC M) hT (szC_L hZ)) dX5_hangs_16 ml_X5_120 im_X5_hangingOn (hT.s 0 (by decide)) (hT.n 0 (by decide)) rfl rfl (dl1 (d := d) (by omega)) rfl rfl (Nat.le_of_ble_eq_true rfl) rfl rfl (Nat.zero_le _) (Nat.zero_le _) ?_
    refine aw_iret dX5_hangs_19 rfl (Nat.zero_le _) (Nat.zero_le _) ?_
    exact ⟨congrArg (fun z => some (Value.int z)) (show sX5_hangs M x1 = hgF M (szC M) 12 ((1 : Int32) <<< (x1 &&& 31)) by unfold sX5_hangs; rw [if_pos c1]).symm, rfl⟩
  · refine aw_iload_n dX5_hangs_10 0 rfl ?_
    refine aw_goto 19 dX5_hangs_11 (by decide) ?_
    refine aw_iret dX5_hangs_19 rfl (Nat.zero_le _) (Nat.zero_le _) ?_
    exact ⟨congrArg (fun z => some (Value.int z)) (show sX5_hangs M x1 = sX5_slotError M x1 by unfold sX5_hangs; rw [if_neg c1]).symm, rfl⟩
def sX6_hangs (M : xM) (x1 : Int32) : Int32 := (if (bz (sX6_isThing (Int32.toInt64 x1))) = 0 then -1 else (if 0 ≤ (mI M 1 x1.toNatClampNeg) then sX6_hanging M x1 else -5))
theorem sp_X6_hangs {d : Nat} (hd : 2 ≤ d) {M : xM} (x1 : Int32) (hT : TR M)  (hZ : LenR M) : Sp (fX6_hangs d) [.ref 0, .int x1] M (dt (some (.int (sX6_hangs M x1))) (M)) := by
  refine Sp.of pn_X6 (Nat.le_of_ble_eq_true rfl) (fun h => Bool.noConfusion h) ?_
  refine aw_iload_n dX6_hangs_0 1 rfl ?_
  refine aw_i2l dX6_hangs_1 ?_
  refine aw_callSi [.long (Int32.toInt64 x1)] [] (sp_X6_isThing (d := d - 1) (by omega) (Int32.toInt64 x1) ) dX6_hangs_2 ml_X6_159 sm_X6_isThing rfl (dl1 (d := d) (by omega)) rfl rfl (Nat.le_of_ble_eq_true rfl) rfl rfl (Nat.zero_le _) (Nat.zero_le _) ?_
  refine aw_if_ne 10 dX6_hangs_5 (by decide) (fun c1 => ?_) (fun c1 => ?_)
  · refine aw_aload_n dX6_hangs_10 0 rfl ?_
    refine aw_getR (b := 1) dX6_hangs_11 fl_X6_7 rfl (hT.s 0 (by decide)) (hT.n 0 (by decide)) (hT.r 0) ?_
    refine aw_iload_n dX6_hangs_14 1 rfl ?_
    refine aw_iald dX6_hangs_15 (hT.s 1 (by decide)) (hT.n 1 (by decide)) (thing_vp c1) ?_
    refine aw_if_ge 24 dX6_hangs_16 (by decide) (fun c2 => ?_) (fun c2 => ?_)
    · refine aw_aload_n dX6_hangs_24 0 rfl ?_
      refine aw_iload_n dX6_hangs_25 1 rfl ?_
      refine aw_callVi [.int x1] [] (sp_X6_hangingI (d := d - 1) (by omega) x1 hT hZ (thing_vp12 c1)) dX6_hangs_26 ml_X6_176 im_X6_hanging (hT.s 0 (by decide)) (hT.n 0 (by decide)) rfl rfl (dl1 (d := d) (by omega)) rfl rfl (Nat.le_of_ble_eq_true rfl) rfl rfl (Nat.zero_le _) (Nat.zero_le _) ?_
      refine aw_iret dX6_hangs_29 rfl (Nat.zero_le _) (Nat.zero_le _) ?_
      exact ⟨congrArg (fun z => some (Value.int z)) (show sX6_hangs M x1 = sX6_hanging M x1 by unfold sX6_hangs; rw [if_neg c1, if_pos c2]).symm, rfl⟩
    · refine aw_bipush (v := -5) dX6_hangs_19 (by decide) ?_
      refine aw_goto 29 dX6_hangs_21 (by decide) ?_
      refine aw_iret dX6_hangs_29 rfl (Nat.zero_le _) (Nat.zero_le _) ?_
      exact ⟨congrArg (fun z => some (Value.int z)) (show sX6_hangs M x1 = -5 by unfold sX6_hangs; rw [if_neg c1, if_neg c2]).symm, rfl⟩
  · refine aw_iconst (v := -1) dX6_hangs_8 (by decide) ?_
    refine aw_iret dX6_hangs_9 rfl (Nat.zero_le _) (Nat.zero_le _) ?_
    exact ⟨congrArg (fun z => some (Value.int z)) (show sX6_hangs M x1 = -1 by unfold sX6_hangs; rw [if_pos c1]).symm, rfl⟩
def drC (M : xM) (x : Int32) (o : Nat) : Bool := !decide (nI o = x) && sX5_has (lkC M o) x
theorem drC_1 {M : xM} {x : Int32} {o : Nat} (h : nI o = x) : drC M x o = false := by unfold drC; rw [decide_eq_true h]; rfl
theorem drC_2 {M : xM} {x : Int32} {o : Nat} (h : bz (sX5_has (lkC M o) x) = 0) : drC M x o = false := by unfold drC; rw [bz_0.mp h, Bool.and_false]
theorem drC_t {M : xM} {x : Int32} {o : Nat} (h1 : ¬ nI o = x) (h : ¬ bz (sX5_has (lkC M o) x) = 0) : drC M x o = true := by unfold drC; rw [bz_n0.mp h, decide_eq_false h1]; rfl
theorem aw_ifT {F : xF} {pc : Nat} {lv : List (Nat × Value)} {st : List Value} {M M1 M2 : xM} {cs ss : Nat} {b : Bool} {x y : Int32} (hb : b = true) (h : AW F pc lv st M cs ss (dt (some (.int x)) M1)) : AW F pc lv st M cs ss (dt (some (.int (if b = true then x else y))) (if b = true then M1 else M2)) := by
  rw [if_pos hb, if_pos hb]; exact h
theorem aw_ifF {F : xF} {pc : Nat} {lv : List (Nat × Value)} {st : List Value} {M M1 M2 : xM} {cs ss : Nat} {b : Bool} {x y : Int32} (hb : b = false) (h : AW F pc lv st M cs ss (dt (some (.int y)) M2)) : AW F pc lv st M cs ss (dt (some (.int (if b = true then x else y))) (if b = true then M1 else M2)) := by
  rw [if_neg (by rw [hb]; decide), if_neg (by rw [hb]; decide)]; exact h
theorem ex_X5_drop {d : Nat} (hd : 2 ≤ d) {M : xM} (hT : TC M) (x1 e : Int32) (h : vp_in x1 12) : AW (fX5_drop d) 46 [(3, .int (nI 12)), (2, .int e), (0, .ref 0), (1, .int x1)] [] M 0 0 (dt (some (.int (sX5_filledSlots (tX2_beEmpty M (54 + 3 * x1.toNatClampNeg))))) (tX2_beEmpty M (54 + 3 * x1.toNatClampNeg))) := by
  refine aw_aload_n dX5_drop_46 2 rfl ?_
  refine aw_getR (b := 1) dX5_drop_47 fl_X5_11 rfl (hT.s 0 (by decide)) (hT.n 0 (by decide)) (hT.r 0 0 (by decide) (by decide)) ?_
  refine aw_iload_n dX5_drop_50 3 rfl ?_
  refine aw_aald (b := 54 + 3 * x1.toNatClampNeg) dX5_drop_51 (hT.s 1 (by decide)) (hT.n 1 (by decide)) h (hT.slot (vp_lt h)) ?_
  refine aw_callVv [] [] (sp_X2_beEmpty (d := d - 1) (by omega)  (hT.row (t := x1.toNatClampNeg) (vp_lt h))) dX5_drop_52 ml_X5_114 im_X2_beEmpty (hT.row (t := x1.toNatClampNeg) (vp_lt h)).1 (hT.row (t := x1.toNatClampNeg) (vp_lt h)).n0 rfl rfl (dl1 (d := d) (by omega)) rfl rfl (Nat.le_of_ble_eq_true rfl) rfl rfl (Nat.zero_le _) (Nat.zero_le _) ?_
  refine aw_aload_n dX5_drop_55 2 rfl ?_
  refine aw_callVi [] [] (sp_X5_filledSlots (d := d - 1) (by omega)  ((sT_X2_beEmpty M (54 + 3 * x1.toNatClampNeg) ).TC hT)) dX5_drop_56 ml_X5_117 im_X5_filledSlots (((sT_X2_beEmpty M (54 + 3 * x1.toNatClampNeg) ).TC hT).s 0 (by decide)) (((sT_X2_beEmpty M (54 + 3 * x1.toNatClampNeg) ).TC hT).n 0 (by decide)) rfl rfl (dl1 (d := d) (by omega)) rfl rfl (Nat.le_of_ble_eq_true rfl) rfl rfl (Nat.zero_le _) (Nat.zero_le _) ?_
  refine aw_iret dX5_drop_59 rfl (Nat.zero_le _) (Nat.zero_le _) ?_
  exact ⟨rfl, rfl⟩
theorem lp_X5_drop {d : Nat} (hd : 2 ≤ d) {M M2 : xM} (hT : TC M) (hZ : LnC M) (x1 e y : Int32) : ∀ (n i : Nat), i + n = 12 → AW (fX5_drop d) 46 [(3, .int (nI 12)), (2, .int e), (0, .ref 0), (1, .int x1)] [] M 0 0 (dt (some (.int y)) M2) → AW (fX5_drop d) 14 [(3, .int (nI i)), (2, .int e), (0, .ref 0), (1, .int x1)] [] M 0 0 (dt (some (.int (if any (drC M x1) n i = true then -2 else y))) (if any (drC M x1) n i = true then M else M2)) := by
  intro n
  induction n with
  | zero =>
    intro i hi hk
    obtain rfl : i = 12 := by omega
    refine aw_ifF rfl ?_
    refine aw_iload_n dX5_drop_14 0 rfl ?_
    refine aw_bipush (v := 12) dX5_drop_15 (by decide) ?_
    refine aw_icmp_geN 12 12 46 dX5_drop_17 (by decide) rfl rfl (by omega) (by omega) (fun c1 => ?_) (fun c1 => absurd (by omega) c1)
    exact hk
  | succ n ih =>
    intro i hi hk
    refine aw_iload_n dX5_drop_14 0 rfl ?_
    refine aw_bipush (v := 12) dX5_drop_15 (by decide) ?_
    refine aw_icmp_geN i 12 46 dX5_drop_17 (by decide) rfl rfl (by omega) (by omega) (fun c1 => absurd c1 (by omega)) (fun c1 => ?_)
    refine aw_iload_n dX5_drop_20 0 rfl ?_
    refine aw_iload_n dX5_drop_21 3 rfl ?_
    refine aw_icmp_eq 40 dX5_drop_22 (by decide) (fun c2 => ?_) (fun c2 => ?_)
    · refine aw_iincN i 1 [(3, .int (nI (i + 1))), (2, .int e), (0, .ref 0), (1, .int x1)] dX5_drop_40 0 rfl rfl rfl (Nat.le_of_ble_eq_true rfl) rfl ?_
      refine aw_goto 14 dX5_drop_43 (by decide) ?_
      rw [any_f n (drC_1 c2)]
      exact ih (i + 1) (by omega) hk
    · refine aw_aload_n dX5_drop_25 2 rfl ?_
      refine aw_iload_n dX5_drop_26 0 rfl ?_
      refine aw_callVi [.int (nI i)] [] (sp_X5_linksOf (d := d - 1) (by omega) i (szC M i) hT (by omega) (szC_L hZ i (by omega)).1 (szC_L hZ i (by omega)).2) dX5_drop_27 ml_X5_107 im_X5_linksOf (hT.s 0 (by decide)) (hT.n 0 (by decide)) rfl rfl (dl1 (d := d) (by omega)) rfl rfl (Nat.le_of_ble_eq_true rfl) rfl rfl (Nat.zero_le _) (Nat.zero_le _) ?_
      refine aw_iload_n dX5_drop_30 3 rfl ?_
      refine aw_callSi [.int (lkC M i), .int x1] [] (sp_X5_has (d := d - 1) (by omega) (lkC M i) x1 ) dX5_drop_31 ml_X5_110 sm_X5_has rfl (dl1 (d := d) (by omega)) rfl rfl (Nat.le_of_ble_eq_true rfl) rfl rfl (Nat.zero_le _) (Nat.zero_le _) ?_
      refine aw_if_eq 40 dX5_drop_34 (by decide) (fun c3 => ?_) (fun c3 => ?_)
      · refine aw_iincN i 1 [(3, .int (nI (i + 1))), (2, .int e), (0, .ref 0), (1, .int x1)] dX5_drop_40 0 rfl rfl rfl (Nat.le_of_ble_eq_true rfl) rfl ?_
        refine aw_goto 14 dX5_drop_43 (by decide) ?_
        rw [any_f n (drC_2 c3)]
        exact ih (i + 1) (by omega) hk
      · refine aw_bipush (v := -2) dX5_drop_37 (by decide) ?_
        refine aw_iret dX5_drop_39 rfl (Nat.zero_le _) (Nat.zero_le _) ?_
        rw [any_t n (drC_t c2 c3)]
        exact ⟨rfl, rfl⟩
def sX5_drop (M : xM) (x1 : Int32) : Int32 := (if (sX5_slotError M x1) = 0 then if any (drC M x1) 12 0 = true then -2 else sX5_filledSlots (tX2_beEmpty M (54 + 3 * x1.toNatClampNeg)) else sX5_slotError M x1)
def tX5_drop (M : xM) (x1 : Int32) : xM := (if (sX5_slotError M x1) = 0 then (if any (drC M x1) 12 0 = true then M else tX2_beEmpty M (54 + 3 * x1.toNatClampNeg)) else M)
theorem sT_X5_drop (M : xM) (x1 : Int32) : sT M (tX5_drop M x1) := (sT.ite (sT.ite (sT.rf M) (sT_X2_beEmpty M (54 + 3 * x1.toNatClampNeg))) (sT.rf M))
theorem sp_X5_drop {d : Nat} (hd : 2 ≤ d) {M : xM} (x1 : Int32) (hT : TC M) (hZ : LnC M) : Sp (fX5_drop d) [.ref 0, .int x1] M (dt (some (.int (sX5_drop M x1))) (tX5_drop M x1)) := by
  refine Sp.of pn_X5 (Nat.le_of_ble_eq_true rfl) (fun h => Bool.noConfusion h) ?_
  refine aw_aload_n dX5_drop_0 0 rfl ?_
  refine aw_iload_n dX5_drop_1 1 rfl ?_
  refine aw_callVi [.int x1] [] (sp_X5_slotError (d := d - 1) (by omega) x1 hT) dX5_drop_2 ml_X5_94 im_X5_slotError (hT.s 0 (by decide)) (hT.n 0 (by decide)) rfl rfl (dl1 (d := d) (by omega)) rfl rfl (Nat.le_of_ble_eq_true rfl) rfl rfl (Nat.zero_le _) (Nat.zero_le _) ?_
  refine aw_istore_n [(2, .int (sX5_slotError M x1)), (0, .ref 0), (1, .int x1)] dX5_drop_5 (Nat.le_of_ble_eq_true rfl) rfl ?_
  refine aw_iload_n dX5_drop_6 0 rfl ?_
  refine aw_if_eq 12 dX5_drop_7 (by decide) (fun c1 => ?_) (fun c1 => ?_)
  · refine aw_iconst (v := 0) dX5_drop_12 (by decide) ?_
    refine aw_istore_n [(3, .int 0), (2, .int (sX5_slotError M x1)), (0, .ref 0), (1, .int x1)] dX5_drop_13 (Nat.le_of_ble_eq_true rfl) rfl ?_
    refine aw_dt (lp_X5_drop (by omega) hT hZ x1 (sX5_slotError M x1) _ 12 0 (by omega) (ex_X5_drop (by omega) hT x1 (sX5_slotError M x1) (slotE_vp c1))) (congrArg (fun z => some (Value.int z)) (show sX5_drop M x1 = if any (drC M x1) 12 0 = true then -2 else sX5_filledSlots (tX2_beEmpty M (54 + 3 * x1.toNatClampNeg)) by unfold sX5_drop; rw [if_pos c1]).symm) ((show tX5_drop M x1 = (if any (drC M x1) 12 0 = true then M else tX2_beEmpty M (54 + 3 * x1.toNatClampNeg)) by unfold tX5_drop; rw [if_pos c1]).symm)
  · refine aw_iload_n dX5_drop_10 0 rfl ?_
    refine aw_iret dX5_drop_11 rfl (Nat.zero_le _) (Nat.zero_le _) ?_
    exact ⟨congrArg (fun z => some (Value.int z)) (show sX5_drop M x1 = sX5_slotError M x1 by unfold sX5_drop; rw [if_neg c1]).symm, (show tX5_drop M x1 = M by unfold tX5_drop; rw [if_neg c1]).symm⟩
def drR (M : xM) (x : Int32) (u : Nat) : Bool := !decide (nI u = x) && (sX6_isRow M (nI u) && stR0 M u x.toNatClampNeg)
theorem drR_1 {M : xM} {x : Int32} {o : Nat} (h : nI o = x) : drR M x o = false := by unfold drR; rw [decide_eq_true h]; rfl
theorem drR_2 {M : xM} {x : Int32} {o : Nat} (h : bz (sX6_isRow M (nI o)) = 0) : drR M x o = false := by unfold drR; rw [bz_0.mp h, Bool.false_and, Bool.and_false]
theorem drR_3 {M : xM} {x : Int32} {o : Nat} (h : bz (stR0 M o x.toNatClampNeg) = 0) : drR M x o = false := by unfold drR; rw [bz_0.mp h, Bool.and_false, Bool.and_false]
theorem drR_t {M : xM} {x : Int32} {o : Nat} (h1 : ¬ nI o = x) (h2 : ¬ bz (sX6_isRow M (nI o)) = 0) (h : ¬ bz (stR0 M o x.toNatClampNeg) = 0) : drR M x o = true := by unfold drR; rw [bz_n0.mp h, bz_n0.mp h2, decide_eq_false h1]; rfl
theorem sp_X6_standsI {d : Nat} (hd : 0 ≤ d) {M : xM} (x1 : Int32) (u : Nat) (hT : TR M) (hZ : LenR M) (h : vp_in x1 12) (hu : u < 12) : Sp (fX6_stands d) [.ref 0, .int x1, .int (nI u)] M (dt (some (.int (bz (stR0 M u x1.toNatClampNeg)))) M) := by
  obtain ⟨e, b⟩ := nI_cl h
  have q := sp_X6_stands hd x1 u (szR M u) hT (by omega) (szR_eq hZ (by omega)).1 (szR_eq hZ (by omega)).2
  have e2 : x1.toInt64 = lN x1.toNatClampNeg := (congrArg Int32.toInt64 e).trans (nIL (by omega))
  rw [e2] at q
  exact q
theorem ex_X6_drop {d : Nat} (hd : 1 ≤ d) {M : xM} (hT : TR M) (x1 : Int32) (h : vp_in x1 24) : AW (fX6_drop d) 61 [(2, .int (nI 12)), (0, .ref 0), (1, .int x1)] [] M 0 0 (dt (some (.int (sX6_things (stI M 1 x1.toNatClampNeg (-1))))) (stI M 1 x1.toNatClampNeg (-1))) := by
  refine aw_aload_n dX6_drop_61 1 rfl ?_
  refine aw_getR (b := 1) dX6_drop_62 fl_X6_7 rfl (hT.s 0 (by decide)) (hT.n 0 (by decide)) (hT.r 0) ?_
  refine aw_iload_n dX6_drop_65 2 rfl ?_
  refine aw_iconst (v := -1) dX6_drop_66 (by decide) ?_
  refine aw_iast dX6_drop_67 (hT.s 1 (by decide)) (hT.n 1 (by decide)) h ?_
  refine aw_aload_n dX6_drop_68 1 rfl ?_
  refine aw_callVi [] [] (sp_X6_things (d := d - 1) (by omega)  hT) dX6_drop_69 ml_X6_173 im_X6_things (hT.s 0 (by decide)) (hT.n 0 (by decide)) rfl rfl (dl1 (d := d) (by omega)) rfl rfl (Nat.le_of_ble_eq_true rfl) rfl rfl (Nat.zero_le _) (Nat.zero_le _) ?_
  refine aw_iret dX6_drop_72 rfl (Nat.zero_le _) (Nat.zero_le _) ?_
  exact ⟨rfl, rfl⟩
theorem lp_X6_drop {d : Nat} (hd : 1 ≤ d) {M M2 : xM} (hT : TR M) (hZ : LenR M) (x1 y : Int32) (h : vp_in x1 12) : ∀ (n i : Nat), i + n = 12 → AW (fX6_drop d) 61 [(2, .int (nI 12)), (0, .ref 0), (1, .int x1)] [] M 0 0 (dt (some (.int y)) M2) → AW (fX6_drop d) 24 [(2, .int (nI i)), (0, .ref 0), (1, .int x1)] [] M 0 0 (dt (some (.int (if any (drR M x1) n i = true then -2 else y))) (if any (drR M x1) n i = true then M else M2)) := by
  intro n
  induction n with
  | zero =>
    intro i hi hk
    obtain rfl : i = 12 := by omega
    refine aw_ifF rfl ?_
    refine aw_iload_n dX6_drop_24 0 rfl ?_
    refine aw_bipush (v := 12) dX6_drop_25 (by decide) ?_
    refine aw_icmp_geN 12 12 61 dX6_drop_27 (by decide) rfl rfl (by omega) (by omega) (fun c1 => ?_) (fun c1 => absurd (by omega) c1)
    exact hk
  | succ n ih =>
    intro i hi hk
    refine aw_iload_n dX6_drop_24 0 rfl ?_
    refine aw_bipush (v := 12) dX6_drop_25 (by decide) ?_
    refine aw_icmp_geN i 12 61 dX6_drop_27 (by decide) rfl rfl (by omega) (by omega) (fun c1 => absurd c1 (by omega)) (fun c1 => ?_)
    refine aw_iload_n dX6_drop_30 0 rfl ?_
    refine aw_iload_n dX6_drop_31 2 rfl ?_
    refine aw_icmp_eq 55 dX6_drop_32 (by decide) (fun c2 => ?_) (fun c2 => ?_)
    · refine aw_iincN i 1 [(2, .int (nI (i + 1))), (0, .ref 0), (1, .int x1)] dX6_drop_55 0 rfl rfl rfl (Nat.le_of_ble_eq_true rfl) rfl ?_
      refine aw_goto 24 dX6_drop_58 (by decide) ?_
      rw [any_f n (drR_1 c2)]
      exact ih (i + 1) (by omega) hk
    · refine aw_aload_n dX6_drop_35 1 rfl ?_
      refine aw_iload_n dX6_drop_36 0 rfl ?_
      refine aw_callVi [.int (nI i)] [] (sp_X6_isRow (d := d - 1) (by omega) (nI i) hT (vp_in_nI (by omega) (by decide))) dX6_drop_37 ml_X6_166 im_X6_isRow (hT.s 0 (by decide)) (hT.n 0 (by decide)) rfl rfl (dl1 (d := d) (by omega)) rfl rfl (Nat.le_of_ble_eq_true rfl) rfl rfl (Nat.zero_le _) (Nat.zero_le _) ?_
      refine aw_if_eq 55 dX6_drop_40 (by decide) (fun c3 => ?_) (fun c3 => ?_)
      · refine aw_iincN i 1 [(2, .int (nI (i + 1))), (0, .ref 0), (1, .int x1)] dX6_drop_55 0 rfl rfl rfl (Nat.le_of_ble_eq_true rfl) rfl ?_
        refine aw_goto 24 dX6_drop_58 (by decide) ?_
        rw [any_f n (drR_2 c3)]
        exact ih (i + 1) (by omega) hk
      · refine aw_aload_n dX6_drop_43 1 rfl ?_
        refine aw_iload_n dX6_drop_44 2 rfl ?_
        refine aw_iload_n dX6_drop_45 0 rfl ?_
        refine aw_callVi [.int x1, .int (nI i)] [] (sp_X6_standsI (d := d - 1) (by omega) x1 i hT hZ h (by omega)) dX6_drop_46 ml_X6_170 im_X6_stands (hT.s 0 (by decide)) (hT.n 0 (by decide)) rfl rfl (dl1 (d := d) (by omega)) rfl rfl (Nat.le_of_ble_eq_true rfl) rfl rfl (Nat.zero_le _) (Nat.zero_le _) ?_
        refine aw_if_eq 55 dX6_drop_49 (by decide) (fun c4 => ?_) (fun c4 => ?_)
        · refine aw_iincN i 1 [(2, .int (nI (i + 1))), (0, .ref 0), (1, .int x1)] dX6_drop_55 0 rfl rfl rfl (Nat.le_of_ble_eq_true rfl) rfl ?_
          refine aw_goto 24 dX6_drop_58 (by decide) ?_
          rw [any_f n (drR_3 c4)]
          exact ih (i + 1) (by omega) hk
        · refine aw_bipush (v := -2) dX6_drop_52 (by decide) ?_
          refine aw_iret dX6_drop_54 rfl (Nat.zero_le _) (Nat.zero_le _) ?_
          rw [any_t n (drR_t c2 c3 c4)]
          exact ⟨rfl, rfl⟩
def sX6_drop (M : xM) (x1 : Int32) : Int32 := (if (bz (sX6_isThing (Int32.toInt64 x1))) = 0 then -1 else (if 0 ≤ (mI M 1 x1.toNatClampNeg) then if any (drR M x1) 12 0 = true then -2 else sX6_things (stI M 1 x1.toNatClampNeg (-1)) else -5))
def tX6_drop (M : xM) (x1 : Int32) : xM := (if (bz (sX6_isThing (Int32.toInt64 x1))) = 0 then M else (if 0 ≤ (mI M 1 x1.toNatClampNeg) then (if any (drR M x1) 12 0 = true then M else stI M 1 x1.toNatClampNeg (-1)) else M))
theorem sT_X6_drop (M : xM) (x1 : Int32) : sT M (tX6_drop M x1) := (sT.ite (sT.rf M) (sT.ite (sT.ite (sT.rf M) (sT.I M _ _ _)) (sT.rf M)))
theorem sp_X6_drop {d : Nat} (hd : 2 ≤ d) {M : xM} (x1 : Int32) (hT : TR M)  (hZ : LenR M) : Sp (fX6_drop d) [.ref 0, .int x1] M (dt (some (.int (sX6_drop M x1))) (tX6_drop M x1)) := by
  refine Sp.of pn_X6 (Nat.le_of_ble_eq_true rfl) (fun h => Bool.noConfusion h) ?_
  refine aw_iload_n dX6_drop_0 1 rfl ?_
  refine aw_i2l dX6_drop_1 ?_
  refine aw_callSi [.long (Int32.toInt64 x1)] [] (sp_X6_isThing (d := d - 1) (by omega) (Int32.toInt64 x1) ) dX6_drop_2 ml_X6_159 sm_X6_isThing rfl (dl1 (d := d) (by omega)) rfl rfl (Nat.le_of_ble_eq_true rfl) rfl rfl (Nat.zero_le _) (Nat.zero_le _) ?_
  refine aw_if_ne 10 dX6_drop_5 (by decide) (fun c1 => ?_) (fun c1 => ?_)
  · refine aw_aload_n dX6_drop_10 0 rfl ?_
    refine aw_getR (b := 1) dX6_drop_11 fl_X6_7 rfl (hT.s 0 (by decide)) (hT.n 0 (by decide)) (hT.r 0) ?_
    refine aw_iload_n dX6_drop_14 1 rfl ?_
    refine aw_iald dX6_drop_15 (hT.s 1 (by decide)) (hT.n 1 (by decide)) (thing_vp c1) ?_
    refine aw_if_ge 22 dX6_drop_16 (by decide) (fun c2 => ?_) (fun c2 => ?_)
    · refine aw_iconst (v := 0) dX6_drop_22 (by decide) ?_
      refine aw_istore_n [(2, .int 0), (0, .ref 0), (1, .int x1)] dX6_drop_23 (Nat.le_of_ble_eq_true rfl) rfl ?_
      refine aw_dt (lp_X6_drop (by omega) hT hZ x1 _ (thing_vp12 c1) 12 0 (by omega) (ex_X6_drop (by omega) hT x1 (thing_vp c1))) (congrArg (fun z => some (Value.int z)) (show sX6_drop M x1 = if any (drR M x1) 12 0 = true then -2 else sX6_things (stI M 1 x1.toNatClampNeg (-1)) by unfold sX6_drop; rw [if_neg c1, if_pos c2]).symm) ((show tX6_drop M x1 = (if any (drR M x1) 12 0 = true then M else stI M 1 x1.toNatClampNeg (-1)) by unfold tX6_drop; rw [if_neg c1, if_pos c2]).symm)
    · refine aw_bipush (v := -5) dX6_drop_19 (by decide) ?_
      refine aw_iret dX6_drop_21 rfl (Nat.zero_le _) (Nat.zero_le _) ?_
      exact ⟨congrArg (fun z => some (Value.int z)) (show sX6_drop M x1 = -5 by unfold sX6_drop; rw [if_neg c1, if_neg c2]).symm, (show tX6_drop M x1 = M by unfold tX6_drop; rw [if_neg c1, if_neg c2]).symm⟩
  · refine aw_iconst (v := -1) dX6_drop_8 (by decide) ?_
    refine aw_iret dX6_drop_9 rfl (Nat.zero_le _) (Nat.zero_le _) ?_
    exact ⟨congrArg (fun z => some (Value.int z)) (show sX6_drop M x1 = -1 by unfold sX6_drop; rw [if_pos c1]).symm, (show tX6_drop M x1 = M by unfold tX6_drop; rw [if_pos c1]).symm⟩
def gaC (s : Int32) : Nat → Nat → xM → Nat → xM × Nat
  | 0, _, M, k => (M, k)
  | n + 1, i, M, k => if (sX5_has s (nI i) || sX2_isEmpty M (54 + 3 * i)) = true then gaC s n (i + 1) M k else gaC s n (i + 1) (tX2_beEmpty M (54 + 3 * i)) (k + 1)
theorem gaC_t {s : Int32} {i : Nat} {M : xM} (n k : Nat) (h : (sX5_has s (nI i) || sX2_isEmpty M (54 + 3 * i)) = true) : gaC s (n + 1) i M k = gaC s n (i + 1) M k := if_pos h
theorem gaC_f {s : Int32} {i : Nat} {M : xM} (n k : Nat) (h : (sX5_has s (nI i) || sX2_isEmpty M (54 + 3 * i)) = false) : gaC s (n + 1) i M k = gaC s n (i + 1) (tX2_beEmpty M (54 + 3 * i)) (k + 1) := if_neg (by rw [h]; decide)
theorem gaC_sT (s : Int32) : ∀ n i M k, sT M (gaC s n i M k).1
  | 0, _, M, _ => sT.rf M
  | n + 1, i, M, k => by
    unfold gaC
    split
    · exact gaC_sT s n (i + 1) M k
    · exact (sT_X2_beEmpty M (54 + 3 * i)).tr (gaC_sT s n (i + 1) _ (k + 1))
theorem lp_X5_gather {d : Nat} (hd : 1 ≤ d) (x1 e s : Int32) : ∀ (n i : Nat) (M : xM) (k : Nat), i + n = 12 → k ≤ i → TC M → AW (fX5_gather d) 24 [(5, .int (nI i)), (4, .int (nI k)), (3, .int s), (2, .int e), (0, .ref 0), (1, .int x1)] [] M 0 0 (dt (some (.int (nI (gaC s n i M k).2))) (gaC s n i M k).1) := by
  intro n
  induction n with
  | zero =>
    intro i M k hi hk hT
    obtain rfl : i = 12 := by omega
    refine aw_iload dX5_gather_24 0 rfl ?_
    refine aw_bipush (v := 12) dX5_gather_26 (by decide) ?_
    refine aw_icmp_geN 12 12 75 dX5_gather_28 (by decide) rfl rfl (by omega) (by omega) (fun c1 => ?_) (fun c1 => absurd (by omega) c1)
    refine aw_iload dX5_gather_75 1 rfl ?_
    refine aw_iret dX5_gather_77 rfl (Nat.zero_le _) (Nat.zero_le _) ?_
    exact ⟨rfl, rfl⟩
  | succ n ih =>
    intro i M k hi hk hT
    refine aw_iload dX5_gather_24 0 rfl ?_
    refine aw_bipush (v := 12) dX5_gather_26 (by decide) ?_
    refine aw_icmp_geN i 12 75 dX5_gather_28 (by decide) rfl rfl (by omega) (by omega) (fun c1 => absurd c1 (by omega)) (fun c1 => ?_)
    refine aw_iload_n dX5_gather_31 2 rfl ?_
    refine aw_iload dX5_gather_32 0 rfl ?_
    refine aw_callSi [.int s, .int (nI i)] [] (sp_X5_has (d := d - 1) (by omega) s (nI i) ) dX5_gather_34 ml_X5_110 sm_X5_has rfl (dl1 (d := d) (by omega)) rfl rfl (Nat.le_of_ble_eq_true rfl) rfl rfl (Nat.zero_le _) (Nat.zero_le _) ?_
    refine aw_if_ne 69 dX5_gather_37 (by decide) (fun c2 => ?_) (fun c2 => ?_)
    · refine aw_iincN i 1 [(5, .int (nI (i + 1))), (4, .int (nI k)), (3, .int s), (2, .int e), (0, .ref 0), (1, .int x1)] dX5_gather_69 0 rfl rfl rfl (Nat.le_of_ble_eq_true rfl) rfl ?_
      refine aw_goto 24 dX5_gather_72 (by decide) ?_
      rw [gaC_t n k (show (sX5_has s (nI i) || sX2_isEmpty M (54 + 3 * i)) = true by rw [bz_n0.mp c2]; rfl)]
      exact ih (i + 1) M k (by omega) (by omega) hT
    · refine aw_aload_n dX5_gather_40 4 rfl ?_
      refine aw_getR (b := 1) dX5_gather_41 fl_X5_11 rfl (hT.s 0 (by decide)) (hT.n 0 (by decide)) (hT.r 0 0 (by decide) (by decide)) ?_
      refine aw_iload dX5_gather_44 0 rfl ?_
      refine aw_aaldN i (54 + 3 * i) dX5_gather_46 (hT.s 1 (by decide)) (hT.n 1 (by decide)) rfl (by omega) (by first | decide | omega) (hT.slot (by omega)) ?_
      refine aw_callVi [] [] (sp_X2_isEmpty (d := d - 1) (by omega)  (hT.row (t := i) (by omega))) dX5_gather_47 ml_X5_123 im_X2_isEmpty (hT.row (t := i) (by omega)).1 (hT.row (t := i) (by omega)).n0 rfl rfl (dl1 (d := d) (by omega)) rfl rfl (Nat.le_of_ble_eq_true rfl) rfl rfl (Nat.zero_le _) (Nat.zero_le _) ?_
      refine aw_if_eq 56 dX5_gather_50 (by decide) (fun c3 => ?_) (fun c3 => ?_)
      · refine aw_aload_n dX5_gather_56 4 rfl ?_
        refine aw_getR (b := 1) dX5_gather_57 fl_X5_11 rfl (hT.s 0 (by decide)) (hT.n 0 (by decide)) (hT.r 0 0 (by decide) (by decide)) ?_
        refine aw_iload dX5_gather_60 0 rfl ?_
        refine aw_aaldN i (54 + 3 * i) dX5_gather_62 (hT.s 1 (by decide)) (hT.n 1 (by decide)) rfl (by omega) (by first | decide | omega) (hT.slot (by omega)) ?_
        refine aw_callVv [] [] (sp_X2_beEmpty (d := d - 1) (by omega)  (hT.row (t := i) (by omega))) dX5_gather_63 ml_X5_114 im_X2_beEmpty (hT.row (t := i) (by omega)).1 (hT.row (t := i) (by omega)).n0 rfl rfl (dl1 (d := d) (by omega)) rfl rfl (Nat.le_of_ble_eq_true rfl) rfl rfl (Nat.zero_le _) (Nat.zero_le _) ?_
        refine aw_iincN k 1 [(4, .int (nI (k + 1))), (5, .int (nI i)), (3, .int s), (2, .int e), (0, .ref 0), (1, .int x1)] dX5_gather_66 1 rfl rfl rfl (Nat.le_of_ble_eq_true rfl) rfl ?_
        refine aw_iincN i 1 [(5, .int (nI (i + 1))), (4, .int (nI (k + 1))), (3, .int s), (2, .int e), (0, .ref 0), (1, .int x1)] dX5_gather_69 1 rfl rfl rfl (Nat.le_of_ble_eq_true rfl) rfl ?_
        refine aw_goto 24 dX5_gather_72 (by decide) ?_
        rw [gaC_f n k (show (sX5_has s (nI i) || sX2_isEmpty M (54 + 3 * i)) = false by rw [bz_0.mp c2, bz_0.mp c3]; rfl)]
        exact ih (i + 1) _ (k + 1) (by omega) (by omega) ((sT_X2_beEmpty M (54 + 3 * i)).TC hT)
      · refine aw_goto 69 dX5_gather_53 (by decide) ?_
        refine aw_iincN i 1 [(5, .int (nI (i + 1))), (4, .int (nI k)), (3, .int s), (2, .int e), (0, .ref 0), (1, .int x1)] dX5_gather_69 0 rfl rfl rfl (Nat.le_of_ble_eq_true rfl) rfl ?_
        refine aw_goto 24 dX5_gather_72 (by decide) ?_
        rw [gaC_t n k (show (sX5_has s (nI i) || sX2_isEmpty M (54 + 3 * i)) = true by rw [bz_n0.mp c3, Bool.or_true])]
        exact ih (i + 1) M k (by omega) (by omega) hT
def sX5_gather (M : xM) (x1 : Int32) : Int32 := (if (sX5_slotError M x1) = 0 then nI (gaC (hgF M (szC M) 12 ((1 : Int32) <<< (x1 &&& 31))) 12 0 M 0).2 else sX5_slotError M x1)
def tX5_gather (M : xM) (x1 : Int32) : xM := (if (sX5_slotError M x1) = 0 then (gaC (hgF M (szC M) 12 ((1 : Int32) <<< (x1 &&& 31))) 12 0 M 0).1 else M)
theorem sT_X5_gather (M : xM) (x1 : Int32) : sT M (tX5_gather M x1) := (sT.ite (gaC_sT (hgF M (szC M) 12 ((1 : Int32) <<< (x1 &&& 31))) 12 0 M 0) (sT.rf M))
theorem sp_X5_gather {d : Nat} (hd : 3 ≤ d) {M : xM} (x1 : Int32) (hT : TC M) (hZ : LnC M) : Sp (fX5_gather d) [.ref 0, .int x1] M (dt (some (.int (sX5_gather M x1))) (tX5_gather M x1)) := by
  refine Sp.of pn_X5 (Nat.le_of_ble_eq_true rfl) (fun h => Bool.noConfusion h) ?_
  refine aw_aload_n dX5_gather_0 0 rfl ?_
  refine aw_iload_n dX5_gather_1 1 rfl ?_
  refine aw_callVi [.int x1] [] (sp_X5_slotError (d := d - 1) (by omega) x1 hT) dX5_gather_2 ml_X5_94 im_X5_slotError (hT.s 0 (by decide)) (hT.n 0 (by decide)) rfl rfl (dl1 (d := d) (by omega)) rfl rfl (Nat.le_of_ble_eq_true rfl) rfl rfl (Nat.zero_le _) (Nat.zero_le _) ?_
  refine aw_istore_n [(2, .int (sX5_slotError M x1)), (0, .ref 0), (1, .int x1)] dX5_gather_5 (Nat.le_of_ble_eq_true rfl) rfl ?_
  refine aw_iload_n dX5_gather_6 0 rfl ?_
  refine aw_if_eq 12 dX5_gather_7 (by decide) (fun c1 => ?_) (fun c1 => ?_)
  · refine aw_aload_n dX5_gather_12 1 rfl ?_
    refine aw_iload_n dX5_gather_13 2 rfl ?_
    refine aw_callVi [.int x1] [] (sp_X5_hangingOn (d := d - 1) (by omega) x1 (szC M) hT (szC_L hZ)) dX5_gather_14 ml_X5_120 im_X5_hangingOn (hT.s 0 (by decide)) (hT.n 0 (by decide)) rfl rfl (dl1 (d := d) (by omega)) rfl rfl (Nat.le_of_ble_eq_true rfl) rfl rfl (Nat.zero_le _) (Nat.zero_le _) ?_
    refine aw_istore_n [(3, .int (hgF M (szC M) 12 ((1 : Int32) <<< (x1 &&& 31)))), (2, .int (sX5_slotError M x1)), (0, .ref 0), (1, .int x1)] dX5_gather_17 (Nat.le_of_ble_eq_true rfl) rfl ?_
    refine aw_iconst (v := 0) dX5_gather_18 (by decide) ?_
    refine aw_istore [(4, .int 0), (3, .int (hgF M (szC M) 12 ((1 : Int32) <<< (x1 &&& 31)))), (2, .int (sX5_slotError M x1)), (0, .ref 0), (1, .int x1)] dX5_gather_19 (Nat.le_of_ble_eq_true rfl) rfl ?_
    refine aw_iconst (v := 0) dX5_gather_21 (by decide) ?_
    refine aw_istore [(5, .int 0), (4, .int 0), (3, .int (hgF M (szC M) 12 ((1 : Int32) <<< (x1 &&& 31)))), (2, .int (sX5_slotError M x1)), (0, .ref 0), (1, .int x1)] dX5_gather_22 (Nat.le_of_ble_eq_true rfl) rfl ?_
    refine aw_dt (lp_X5_gather (by omega) x1 (sX5_slotError M x1) (hgF M (szC M) 12 ((1 : Int32) <<< (x1 &&& 31))) 12 0 M 0 (by omega) (by omega) hT) (congrArg (fun z => some (Value.int z)) (show sX5_gather M x1 = nI (gaC (hgF M (szC M) 12 ((1 : Int32) <<< (x1 &&& 31))) 12 0 M 0).2 by unfold sX5_gather; rw [if_pos c1]).symm) ((show tX5_gather M x1 = (gaC (hgF M (szC M) 12 ((1 : Int32) <<< (x1 &&& 31))) 12 0 M 0).1 by unfold tX5_gather; rw [if_pos c1]).symm)
  · refine aw_iload_n dX5_gather_10 0 rfl ?_
    refine aw_iret dX5_gather_11 rfl (Nat.zero_le _) (Nat.zero_le _) ?_
    exact ⟨congrArg (fun z => some (Value.int z)) (show sX5_gather M x1 = sX5_slotError M x1 by unfold sX5_gather; rw [if_neg c1]).symm, (show tX5_gather M x1 = M by unfold tX5_gather; rw [if_neg c1]).symm⟩
def gaR (s : Int32) : Nat → Nat → xM → Nat → xM × Nat
  | 0, _, M, k => (M, k)
  | n + 1, i, M, k => if (rEmp M i || decide (¬ (s >>> (nI i &&& 31)) &&& 1 = 0)) = true then gaR s n (i + 1) M k else gaR s n (i + 1) (stI M 1 i (-1)) (k + 1)
theorem gaR_t {s : Int32} {i : Nat} {M : xM} (n k : Nat) (h : (rEmp M i || decide (¬ (s >>> (nI i &&& 31)) &&& 1 = 0)) = true) : gaR s (n + 1) i M k = gaR s n (i + 1) M k := if_pos h
theorem gaR_f {s : Int32} {i : Nat} {M : xM} (n k : Nat) (h : (rEmp M i || decide (¬ (s >>> (nI i &&& 31)) &&& 1 = 0)) = false) : gaR s (n + 1) i M k = gaR s n (i + 1) (stI M 1 i (-1)) (k + 1) := if_neg (by rw [h]; decide)
theorem gaR_sT (s : Int32) : ∀ n i M k, sT M (gaR s n i M k).1
  | 0, _, M, _ => sT.rf M
  | n + 1, i, M, k => by
    unfold gaR
    split
    · exact gaR_sT s n (i + 1) M k
    · exact (sT.I M 1 i (-1)).tr (gaR_sT s n (i + 1) _ (k + 1))
theorem lp_X6_gather {d : Nat} (x1 s : Int32) : ∀ (n i : Nat) (M : xM) (k : Nat), i + n = 12 → k ≤ i → TR M → AW (fX6_gather d) 33 [(4, .int (nI i)), (3, .int (nI k)), (2, .int s), (0, .ref 0), (1, .int x1)] [] M 0 0 (dt (some (.int (nI (gaR s n i M k).2))) (gaR s n i M k).1) := by
  intro n
  induction n with
  | zero =>
    intro i M k hi hk hT
    obtain rfl : i = 12 := by omega
    refine aw_iload dX6_gather_33 0 rfl ?_
    refine aw_bipush (v := 12) dX6_gather_35 (by decide) ?_
    refine aw_icmp_geN 12 12 76 dX6_gather_37 (by decide) rfl rfl (by omega) (by omega) (fun c1 => ?_) (fun c1 => absurd (by omega) c1)
    refine aw_iload_n dX6_gather_76 1 rfl ?_
    refine aw_iret dX6_gather_77 rfl (Nat.zero_le _) (Nat.zero_le _) ?_
    exact ⟨rfl, rfl⟩
  | succ n ih =>
    intro i M k hi hk hT
    refine aw_iload dX6_gather_33 0 rfl ?_
    refine aw_bipush (v := 12) dX6_gather_35 (by decide) ?_
    refine aw_icmp_geN i 12 76 dX6_gather_37 (by decide) rfl rfl (by omega) (by omega) (fun c1 => absurd c1 (by omega)) (fun c1 => ?_)
    refine aw_aload_n dX6_gather_40 3 rfl ?_
    refine aw_getR (b := 1) dX6_gather_41 fl_X6_7 rfl (hT.s 0 (by decide)) (hT.n 0 (by decide)) (hT.r 0) ?_
    refine aw_iload dX6_gather_44 0 rfl ?_
    refine aw_ialdN i dX6_gather_46 (hT.s 1 (by decide)) (hT.n 1 (by decide)) rfl (by omega) (by first | decide | omega) ?_
    refine aw_if_lt 70 dX6_gather_47 (by decide) (fun c2 => ?_) (fun c2 => ?_)
    · refine aw_iincN i 1 [(4, .int (nI (i + 1))), (3, .int (nI k)), (2, .int s), (0, .ref 0), (1, .int x1)] dX6_gather_70 0 rfl rfl rfl (Nat.le_of_ble_eq_true rfl) rfl ?_
      refine aw_goto 33 dX6_gather_73 (by decide) ?_
      rw [gaR_t n k (show (rEmp M i || _) = true by rw [rEmp, decide_eq_true c2]; rfl)]
      exact ih (i + 1) M k (by omega) (by omega) hT
    · refine aw_iload_n dX6_gather_50 2 rfl ?_
      refine aw_iload dX6_gather_51 0 rfl ?_
      refine aw_ishr dX6_gather_53 ?_
      refine aw_iconst (v := 1) dX6_gather_54 (by decide) ?_
      refine aw_iand dX6_gather_55 ?_
      refine aw_if_ne 70 dX6_gather_56 (by decide) (fun c3 => ?_) (fun c3 => ?_)
      · refine aw_iincN i 1 [(4, .int (nI (i + 1))), (3, .int (nI k)), (2, .int s), (0, .ref 0), (1, .int x1)] dX6_gather_70 0 rfl rfl rfl (Nat.le_of_ble_eq_true rfl) rfl ?_
        refine aw_goto 33 dX6_gather_73 (by decide) ?_
        rw [gaR_t n k (show (rEmp M i || decide (¬ (s >>> (nI i &&& 31)) &&& 1 = 0)) = true by rw [decide_eq_true (p := (¬ (s >>> (nI i &&& 31)) &&& 1 = 0)) c3, Bool.or_true])]
        exact ih (i + 1) M k (by omega) (by omega) hT
      · refine aw_aload_n dX6_gather_59 3 rfl ?_
        refine aw_getR (b := 1) dX6_gather_60 fl_X6_7 rfl (hT.s 0 (by decide)) (hT.n 0 (by decide)) (hT.r 0) ?_
        refine aw_iload dX6_gather_63 0 rfl ?_
        refine aw_iconst (v := -1) dX6_gather_65 (by decide) ?_
        refine aw_iastN i dX6_gather_66 (hT.s 1 (by decide)) (hT.n 1 (by decide)) rfl (by omega) (by first | decide | omega) ?_
        refine aw_iincN k 1 [(3, .int (nI (k + 1))), (4, .int (nI i)), (2, .int s), (0, .ref 0), (1, .int x1)] dX6_gather_67 1 rfl rfl rfl (Nat.le_of_ble_eq_true rfl) rfl ?_
        refine aw_iincN i 1 [(4, .int (nI (i + 1))), (3, .int (nI (k + 1))), (2, .int s), (0, .ref 0), (1, .int x1)] dX6_gather_70 1 rfl rfl rfl (Nat.le_of_ble_eq_true rfl) rfl ?_
        refine aw_goto 33 dX6_gather_73 (by decide) ?_
        rw [gaR_f n k (show (rEmp M i || decide (¬ (s >>> (nI i &&& 31)) &&& 1 = 0)) = false by rw [rEmp, decide_eq_false c2, decide_eq_false (p := (¬ (s >>> (nI i &&& 31)) &&& 1 = 0)) (fun z => z c3)]; rfl)]
        exact ih (i + 1) _ (k + 1) (by omega) (by omega) ((sT.I M 1 i (-1)).TR hT)
def sX6_gather (M : xM) (x1 : Int32) : Int32 := (if (bz (sX6_isThing (Int32.toInt64 x1))) = 0 then -1 else (if 0 ≤ (mI M 1 x1.toNatClampNeg) then nI (gaR (sX6_hanging M x1) 12 0 M 0).2 else -5))
def tX6_gather (M : xM) (x1 : Int32) : xM := (if (bz (sX6_isThing (Int32.toInt64 x1))) = 0 then M else (if 0 ≤ (mI M 1 x1.toNatClampNeg) then (gaR (sX6_hanging M x1) 12 0 M 0).1 else M))
theorem sT_X6_gather (M : xM) (x1 : Int32) : sT M (tX6_gather M x1) := (sT.ite (sT.rf M) (sT.ite (gaR_sT (sX6_hanging M x1) 12 0 M 0) (sT.rf M)))
theorem sp_X6_gather {d : Nat} (hd : 2 ≤ d) {M : xM} (x1 : Int32) (hT : TR M)  (hZ : LenR M) : Sp (fX6_gather d) [.ref 0, .int x1] M (dt (some (.int (sX6_gather M x1))) (tX6_gather M x1)) := by
  refine Sp.of pn_X6 (Nat.le_of_ble_eq_true rfl) (fun h => Bool.noConfusion h) ?_
  refine aw_iload_n dX6_gather_0 1 rfl ?_
  refine aw_i2l dX6_gather_1 ?_
  refine aw_callSi [.long (Int32.toInt64 x1)] [] (sp_X6_isThing (d := d - 1) (by omega) (Int32.toInt64 x1) ) dX6_gather_2 ml_X6_159 sm_X6_isThing rfl (dl1 (d := d) (by omega)) rfl rfl (Nat.le_of_ble_eq_true rfl) rfl rfl (Nat.zero_le _) (Nat.zero_le _) ?_
  refine aw_if_ne 10 dX6_gather_5 (by decide) (fun c1 => ?_) (fun c1 => ?_)
  · refine aw_aload_n dX6_gather_10 0 rfl ?_
    refine aw_getR (b := 1) dX6_gather_11 fl_X6_7 rfl (hT.s 0 (by decide)) (hT.n 0 (by decide)) (hT.r 0) ?_
    refine aw_iload_n dX6_gather_14 1 rfl ?_
    refine aw_iald dX6_gather_15 (hT.s 1 (by decide)) (hT.n 1 (by decide)) (thing_vp c1) ?_
    refine aw_if_ge 22 dX6_gather_16 (by decide) (fun c2 => ?_) (fun c2 => ?_)
    · refine aw_aload_n dX6_gather_22 0 rfl ?_
      refine aw_iload_n dX6_gather_23 1 rfl ?_
      refine aw_callVi [.int x1] [] (sp_X6_hangingI (d := d - 1) (by omega) x1 hT hZ (thing_vp12 c1)) dX6_gather_24 ml_X6_176 im_X6_hanging (hT.s 0 (by decide)) (hT.n 0 (by decide)) rfl rfl (dl1 (d := d) (by omega)) rfl rfl (Nat.le_of_ble_eq_true rfl) rfl rfl (Nat.zero_le _) (Nat.zero_le _) ?_
      refine aw_istore_n [(2, .int (sX6_hanging M x1)), (0, .ref 0), (1, .int x1)] dX6_gather_27 (Nat.le_of_ble_eq_true rfl) rfl ?_
      refine aw_iconst (v := 0) dX6_gather_28 (by decide) ?_
      refine aw_istore_n [(3, .int 0), (2, .int (sX6_hanging M x1)), (0, .ref 0), (1, .int x1)] dX6_gather_29 (Nat.le_of_ble_eq_true rfl) rfl ?_
      refine aw_iconst (v := 0) dX6_gather_30 (by decide) ?_
      refine aw_istore [(4, .int 0), (3, .int 0), (2, .int (sX6_hanging M x1)), (0, .ref 0), (1, .int x1)] dX6_gather_31 (Nat.le_of_ble_eq_true rfl) rfl ?_
      refine aw_dt (lp_X6_gather x1 (sX6_hanging M x1) 12 0 M 0 (by omega) (by omega) hT) (congrArg (fun z => some (Value.int z)) (show sX6_gather M x1 = nI (gaR (sX6_hanging M x1) 12 0 M 0).2 by unfold sX6_gather; rw [if_neg c1, if_pos c2]).symm) ((show tX6_gather M x1 = (gaR (sX6_hanging M x1) 12 0 M 0).1 by unfold tX6_gather; rw [if_neg c1, if_pos c2]).symm)
    · refine aw_bipush (v := -5) dX6_gather_19 (by decide) ?_
      refine aw_iret dX6_gather_21 rfl (Nat.zero_le _) (Nat.zero_le _) ?_
      exact ⟨congrArg (fun z => some (Value.int z)) (show sX6_gather M x1 = -5 by unfold sX6_gather; rw [if_neg c1, if_neg c2]).symm, (show tX6_gather M x1 = M by unfold tX6_gather; rw [if_neg c1, if_neg c2]).symm⟩
  · refine aw_iconst (v := -1) dX6_gather_8 (by decide) ?_
    refine aw_iret dX6_gather_9 rfl (Nat.zero_le _) (Nat.zero_le _) ?_
    exact ⟨congrArg (fun z => some (Value.int z)) (show sX6_gather M x1 = -1 by unfold sX6_gather; rw [if_pos c1]).symm, (show tX6_gather M x1 = M by unfold tX6_gather; rw [if_pos c1]).symm⟩
def faC (M : xM) (u : Int32) : Nat → Nat → Int32 → Int32
  | 0, _, _ => -4
  | n + 1, i, w => if sX5_has w u = true then nI i else faC M u n (i + 1) (w ||| laC M w)
theorem faC_t {M : xM} {u : Int32} (n i : Nat) {w : Int32} (h : sX5_has w u = true) : faC M u (n + 1) i w = nI i := if_pos h
theorem faC_f {M : xM} {u : Int32} (n i : Nat) {w : Int32} (h : sX5_has w u = false) : faC M u (n + 1) i w = faC M u n (i + 1) (w ||| laC M w) := if_neg (by rw [h]; decide)
theorem lp_X5_far {d : Nat} (hd : 2 ≤ d) {M : xM} (hT : TC M) (hZ : LnC M) (x1 x2 e : Int32) : ∀ (n i : Nat) (w : Int32), i + n = 13 → AW (fX5_far d) 23 [(5, .int (nI i)), (4, .int w), (3, .int e), (0, .ref 0), (1, .int x1), (2, .int x2)] [] M 0 0 (dt (some (.int (faC M x2 n i w))) M) := by
  intro n
  induction n with
  | zero =>
    intro i w hi
    obtain rfl : i = 13 := by omega
    refine aw_iload dX5_far_23 0 rfl ?_
    refine aw_bipush (v := 12) dX5_far_25 (by decide) ?_
    refine aw_icmp_gtN 13 12 59 dX5_far_27 (by decide) rfl rfl (by omega) (by omega) (fun c1 => ?_) (fun c1 => absurd (by omega) c1)
    refine aw_bipush (v := -4) dX5_far_59 (by decide) ?_
    refine aw_iret dX5_far_61 rfl (Nat.zero_le _) (Nat.zero_le _) ?_
    exact ⟨rfl, rfl⟩
  | succ n ih =>
    intro i w hi
    refine aw_iload dX5_far_23 0 rfl ?_
    refine aw_bipush (v := 12) dX5_far_25 (by decide) ?_
    refine aw_icmp_gtN i 12 59 dX5_far_27 (by decide) rfl rfl (by omega) (by omega) (fun c1 => absurd c1 (by omega)) (fun c1 => ?_)
    refine aw_iload dX5_far_30 1 rfl ?_
    refine aw_iload_n dX5_far_32 5 rfl ?_
    refine aw_callSi [.int w, .int x2] [] (sp_X5_has (d := d - 1) (by omega) w x2 ) dX5_far_33 ml_X5_110 sm_X5_has rfl (dl1 (d := d) (by omega)) rfl rfl (Nat.le_of_ble_eq_true rfl) rfl rfl (Nat.zero_le _) (Nat.zero_le _) ?_
    refine aw_if_eq 42 dX5_far_36 (by decide) (fun c2 => ?_) (fun c2 => ?_)
    · refine aw_iload dX5_far_42 1 rfl ?_
      refine aw_aload_n dX5_far_44 3 rfl ?_
      refine aw_iload dX5_far_45 1 rfl ?_
      refine aw_callVi [.int w] [.int w] (sp_X5_linksOfAll (d := d - 1) (by omega) w (szC M) hT (szC_L hZ)) dX5_far_47 ml_X5_267 im_X5_linksOfAll (hT.s 0 (by decide)) (hT.n 0 (by decide)) rfl rfl (dl1 (d := d) (by omega)) rfl rfl (Nat.le_of_ble_eq_true rfl) rfl rfl (Nat.zero_le _) (Nat.zero_le _) ?_
      refine aw_ior dX5_far_50 ?_
      refine aw_istore [(4, .int (w ||| (laC M w))), (5, .int (nI i)), (3, .int e), (0, .ref 0), (1, .int x1), (2, .int x2)] dX5_far_51 (Nat.le_of_ble_eq_true rfl) rfl ?_
      refine aw_iincN i 1 [(5, .int (nI (i + 1))), (4, .int (w ||| (laC M w))), (3, .int e), (0, .ref 0), (1, .int x1), (2, .int x2)] dX5_far_53 1 rfl rfl rfl (Nat.le_of_ble_eq_true rfl) rfl ?_
      refine aw_goto 23 dX5_far_56 (by decide) ?_
      rw [faC_f n i (bz_0.mp c2)]
      exact ih (i + 1) _ (by omega)
    · refine aw_iload dX5_far_39 0 rfl ?_
      refine aw_iret dX5_far_41 rfl (Nat.zero_le _) (Nat.zero_le _) ?_
      rw [faC_t n i (bz_n0.mp c2)]
      exact ⟨rfl, rfl⟩
theorem slotP_vp {M : xM} {x y : Int32} (h : sX5_slotPairError M x y = 0) : vp_in x 12 ∧ vp_in y 12 := by
  unfold sX5_slotPairError sX5_firstError at h
  by_cases c1 : sX5_slotError M x = 0
  · rw [if_pos c1] at h
    exact ⟨slotE_vp c1, slotE_vp h⟩
  · rw [if_neg c1] at h
    by_cases c2 : sX5_slotError M y = 0
    · rw [if_pos c2] at h; exact absurd h c1
    · rw [if_neg c2] at h
      split at h
      · exact absurd h c2
      · exact absurd h c1
theorem sp_X5_linksOfI {d : Nat} (hd : 0 ≤ d) {M : xM} (x1 : Int32) (hT : TC M) (hZ : LnC M) (h : vp_in x1 12) : Sp (fX5_linksOf d) [.ref 0, .int x1] M (dt (some (.int (lkC M x1.toNatClampNeg))) M) := by
  obtain ⟨e, b⟩ := nI_cl h
  have q := sp_X5_linksOf hd x1.toNatClampNeg (szC M x1.toNatClampNeg) hT b (szC_L hZ _ b).1 (szC_L hZ _ b).2
  rw [← e] at q
  exact q
def sX5_far (M : xM) (x1 : Int32) (x2 : Int32) : Int32 := (if (sX5_slotPairError M x1 x2) = 0 then faC M x2 12 1 (lkC M x1.toNatClampNeg) else sX5_slotPairError M x1 x2)
theorem sp_X5_far {d : Nat} (hd : 3 ≤ d) {M : xM} (x1 : Int32) (x2 : Int32) (hT : TC M) (hZ : LnC M) : Sp (fX5_far d) [.ref 0, .int x1, .int x2] M (dt (some (.int (sX5_far M x1 x2))) (M)) := by
  refine Sp.of pn_X5 (Nat.le_of_ble_eq_true rfl) (fun h => Bool.noConfusion h) ?_
  refine aw_aload_n dX5_far_0 0 rfl ?_
  refine aw_iload_n dX5_far_1 1 rfl ?_
  refine aw_iload_n dX5_far_2 2 rfl ?_
  refine aw_callVi [.int x1, .int x2] [] (sp_X5_slotPairError (d := d - 1) (by omega) x1 x2 hT) dX5_far_3 ml_X5_264 im_X5_slotPairError (hT.s 0 (by decide)) (hT.n 0 (by decide)) rfl rfl (dl1 (d := d) (by omega)) rfl rfl (Nat.le_of_ble_eq_true rfl) rfl rfl (Nat.zero_le _) (Nat.zero_le _) ?_
  refine aw_istore_n [(3, .int (sX5_slotPairError M x1 x2)), (0, .ref 0), (1, .int x1), (2, .int x2)] dX5_far_6 (Nat.le_of_ble_eq_true rfl) rfl ?_
  refine aw_iload_n dX5_far_7 0 rfl ?_
  refine aw_if_eq 13 dX5_far_8 (by decide) (fun c1 => ?_) (fun c1 => ?_)
  · refine aw_aload_n dX5_far_13 1 rfl ?_
    refine aw_iload_n dX5_far_14 2 rfl ?_
    refine aw_callVi [.int x1] [] (sp_X5_linksOfI (d := d - 1) (by omega) x1 hT hZ (slotP_vp c1).1) dX5_far_15 ml_X5_107 im_X5_linksOf (hT.s 0 (by decide)) (hT.n 0 (by decide)) rfl rfl (dl1 (d := d) (by omega)) rfl rfl (Nat.le_of_ble_eq_true rfl) rfl rfl (Nat.zero_le _) (Nat.zero_le _) ?_
    refine aw_istore [(4, .int (lkC M x1.toNatClampNeg)), (3, .int (sX5_slotPairError M x1 x2)), (0, .ref 0), (1, .int x1), (2, .int x2)] dX5_far_18 (Nat.le_of_ble_eq_true rfl) rfl ?_
    refine aw_iconst (v := 1) dX5_far_20 (by decide) ?_
    refine aw_istore [(5, .int 1), (4, .int (lkC M x1.toNatClampNeg)), (3, .int (sX5_slotPairError M x1 x2)), (0, .ref 0), (1, .int x1), (2, .int x2)] dX5_far_21 (Nat.le_of_ble_eq_true rfl) rfl ?_
    refine aw_dt (lp_X5_far (by omega) hT hZ x1 x2 (sX5_slotPairError M x1 x2) 12 1 (lkC M x1.toNatClampNeg) (by omega)) (congrArg (fun z => some (Value.int z)) (show sX5_far M x1 x2 = faC M x2 12 1 (lkC M x1.toNatClampNeg) by unfold sX5_far; rw [if_pos c1]).symm) (rfl)
  · refine aw_iload_n dX5_far_11 0 rfl ?_
    refine aw_iret dX5_far_12 rfl (Nat.zero_le _) (Nat.zero_le _) ?_
    exact ⟨congrArg (fun z => some (Value.int z)) (show sX5_far M x1 x2 = sX5_slotPairError M x1 x2 by unfold sX5_far; rw [if_neg c1]).symm, rfl⟩
def faB (M : xM) (w : Int32) (b a : Nat) : Bool := decide ((w >>> (nI a &&& 31)) &&& 1 = 1) && lkR M a b
def faM (M : xM) (w : Int32) : Nat → Nat → Int32 → Int32
  | 0, _, x => x
  | n + 1, b, x => faM M w n (b + 1) (x + (if any (faB M w b) 12 0 = true then (1 : Int32) <<< (nI b &&& 31) else 0))
def faR (M : xM) (u : Int32) : Nat → Nat → Int32 → Int32
  | 0, _, _ => -4
  | n + 1, i, w => if ((faM M w 12 0 0) >>> (u &&& 31)) &&& 1 = 1 then nI i else faR M u n (i + 1) (faM M w 12 0 0)
theorem faR_t {M : xM} {u : Int32} (n i : Nat) {w : Int32} (h : ((faM M w 12 0 0) >>> (u &&& 31)) &&& 1 = 1) : faR M u (n + 1) i w = nI i := if_pos h
theorem faR_f {M : xM} {u : Int32} (n i : Nat) {w : Int32} (h : ¬ ((faM M w 12 0 0) >>> (u &&& 31)) &&& 1 = 1) : faR M u (n + 1) i w = faR M u n (i + 1) (faM M w 12 0 0) := if_neg h
theorem lp_far_in {d : Nat} (hd : 1 ≤ d) {M : xM} (hT : TR M) (hZ : LenR M) (b : Nat) (hb : b < 12) (x1 x2 x j w : Int32) {post : Option Value → xM → Prop} : ∀ (n i : Nat) (z : Bool), i + n = 12 → AW (fX6_far d) 136 [(8, .int (nI 12)), (7, .int (bz (z || any (faB M w b) n i))), (6, .int (nI b)), (5, .int x), (4, .int j), (3, .int w), (0, .ref 0), (1, .int x1), (2, .int x2)] [] M 0 0 post → AW (fX6_far d) 72 [(8, .int (nI i)), (7, .int (bz z)), (6, .int (nI b)), (5, .int x), (4, .int j), (3, .int w), (0, .ref 0), (1, .int x1), (2, .int x2)] [] M 0 0 post := by
  intro n
  induction n with
  | zero =>
    intro i z hi hk
    obtain rfl : i = 12 := by omega
    rw [show (z || any (faB M w b) 0 12) = z from Bool.or_false z] at hk
    refine aw_iload dX6_far_72 0 rfl ?_
    refine aw_bipush (v := 12) dX6_far_74 (by decide) ?_
    refine aw_icmp_geN 12 12 136 dX6_far_76 (by decide) rfl rfl (by omega) (by omega) (fun c1 => ?_) (fun c1 => absurd (by omega) c1)
    exact hk
  | succ n ih =>
    intro i z hi hk
    refine aw_iload dX6_far_72 0 rfl ?_
    refine aw_bipush (v := 12) dX6_far_74 (by decide) ?_
    refine aw_icmp_geN i 12 136 dX6_far_76 (by decide) rfl rfl (by omega) (by omega) (fun c1 => absurd c1 (by omega)) (fun c1 => ?_)
    refine aw_iload dX6_far_79 1 rfl ?_
    refine aw_if_ne 123 dX6_far_81 (by decide) (fun c2 => ?_) (fun c2 => ?_)
    · refine aw_iconst (v := 1) dX6_far_123 (by decide) ?_
      refine aw_goto 128 dX6_far_124 (by decide) ?_
      refine aw_istore [(7, .int 1), (8, .int (nI i)), (6, .int (nI b)), (5, .int x), (4, .int j), (3, .int w), (0, .ref 0), (1, .int x1), (2, .int x2)] dX6_far_128 (Nat.le_of_ble_eq_true rfl) rfl ?_
      refine aw_iincN i 1 [(8, .int (nI (i + 1))), (7, .int 1), (6, .int (nI b)), (5, .int x), (4, .int j), (3, .int w), (0, .ref 0), (1, .int x1), (2, .int x2)] dX6_far_130 1 rfl rfl rfl (Nat.le_of_ble_eq_true rfl) rfl ?_
      refine aw_goto 72 dX6_far_133 (by decide) ?_
      have hz : z = true := bz_n0.mp c2
      subst hz
      exact ih (i + 1) true (by omega) hk
    · refine aw_iload_n dX6_far_84 5 rfl ?_
      refine aw_iload dX6_far_85 0 rfl ?_
      refine aw_ishr dX6_far_87 ?_
      refine aw_iconst (v := 1) dX6_far_88 (by decide) ?_
      refine aw_iand dX6_far_89 ?_
      refine aw_iconst (v := 1) dX6_far_90 (by decide) ?_
      refine aw_icmp_ne 127 dX6_far_91 (by decide) (fun c3 => ?_) (fun c3 => ?_)
      · refine aw_iconst (v := 0) dX6_far_127 (by decide) ?_
        refine aw_istore [(7, .int 0), (8, .int (nI i)), (6, .int (nI b)), (5, .int x), (4, .int j), (3, .int w), (0, .ref 0), (1, .int x1), (2, .int x2)] dX6_far_128 (Nat.le_of_ble_eq_true rfl) rfl ?_
        refine aw_iincN i 1 [(8, .int (nI (i + 1))), (7, .int 0), (6, .int (nI b)), (5, .int x), (4, .int j), (3, .int w), (0, .ref 0), (1, .int x1), (2, .int x2)] dX6_far_130 1 rfl rfl rfl (Nat.le_of_ble_eq_true rfl) rfl ?_
        refine aw_goto 72 dX6_far_133 (by decide) ?_
        have hz : z = false := bz_0.mp c2
        subst hz
        rw [any_f n (show faB M w b i = false by unfold faB; rw [decide_eq_false c3]; rfl)] at hk
        exact ih (i + 1) false (by omega) hk
      · refine aw_aload_n dX6_far_94 6 rfl ?_
        refine aw_iload dX6_far_95 0 rfl ?_
        refine aw_callVi [.int (nI i)] [] (sp_X6_isRow (d := d - 1) (by omega) (nI i) hT (vp_in_nI (by omega) (by decide))) dX6_far_97 ml_X6_166 im_X6_isRow (hT.s 0 (by decide)) (hT.n 0 (by decide)) rfl rfl (dl1 (d := d) (by omega)) rfl rfl (Nat.le_of_ble_eq_true rfl) rfl rfl (Nat.zero_le _) (Nat.zero_le _) ?_
        refine aw_if_eq 127 dX6_far_100 (by decide) (fun c4 => ?_) (fun c4 => ?_)
        · refine aw_iconst (v := 0) dX6_far_127 (by decide) ?_
          refine aw_istore [(7, .int 0), (8, .int (nI i)), (6, .int (nI b)), (5, .int x), (4, .int j), (3, .int w), (0, .ref 0), (1, .int x1), (2, .int x2)] dX6_far_128 (Nat.le_of_ble_eq_true rfl) rfl ?_
          refine aw_iincN i 1 [(8, .int (nI (i + 1))), (7, .int 0), (6, .int (nI b)), (5, .int x), (4, .int j), (3, .int w), (0, .ref 0), (1, .int x1), (2, .int x2)] dX6_far_130 1 rfl rfl rfl (Nat.le_of_ble_eq_true rfl) rfl ?_
          refine aw_goto 72 dX6_far_133 (by decide) ?_
          have hz : z = false := bz_0.mp c2
          subst hz
          rw [any_f n (show faB M w b i = false by unfold faB; rw [lkR_1 c4, Bool.and_false])] at hk
          exact ih (i + 1) false (by omega) hk
        · refine aw_aload_n dX6_far_103 6 rfl ?_
          refine aw_iload dX6_far_104 2 rfl ?_
          refine aw_callVi [.int (nI b)] [] (sp_X6_isRow (d := d - 1) (by omega) (nI b) hT (vp_in_nI (by omega) (by decide))) dX6_far_106 ml_X6_166 im_X6_isRow (hT.s 0 (by decide)) (hT.n 0 (by decide)) rfl rfl (dl1 (d := d) (by omega)) rfl rfl (Nat.le_of_ble_eq_true rfl) rfl rfl (Nat.zero_le _) (Nat.zero_le _) ?_
          refine aw_if_eq 127 dX6_far_109 (by decide) (fun c5 => ?_) (fun c5 => ?_)
          · refine aw_iconst (v := 0) dX6_far_127 (by decide) ?_
            refine aw_istore [(7, .int 0), (8, .int (nI i)), (6, .int (nI b)), (5, .int x), (4, .int j), (3, .int w), (0, .ref 0), (1, .int x1), (2, .int x2)] dX6_far_128 (Nat.le_of_ble_eq_true rfl) rfl ?_
            refine aw_iincN i 1 [(8, .int (nI (i + 1))), (7, .int 0), (6, .int (nI b)), (5, .int x), (4, .int j), (3, .int w), (0, .ref 0), (1, .int x1), (2, .int x2)] dX6_far_130 1 rfl rfl rfl (Nat.le_of_ble_eq_true rfl) rfl ?_
            refine aw_goto 72 dX6_far_133 (by decide) ?_
            have hz : z = false := bz_0.mp c2
            subst hz
            rw [any_f n (show faB M w b i = false by unfold faB; rw [lkR_2 c5, Bool.and_false])] at hk
            exact ih (i + 1) false (by omega) hk
          · refine aw_aload_n dX6_far_112 6 rfl ?_
            refine aw_iload dX6_far_113 2 rfl ?_
            refine aw_iload dX6_far_115 0 rfl ?_
            refine aw_callVi [.int (nI b), .int (nI i)] [] (show Sp (fX6_stands (d - 1)) [.ref 0, .int (nI b), .int (nI i)] M (dt (some (.int (bz (stR0 M i b)))) M) by have q := sp_X6_stands (d := d - 1) (by omega) (nI b) i (szR M i) hT (by omega) (szR_eq hZ (by omega)).1 (szR_eq hZ (by omega)).2; rw [nIL (by omega)] at q; exact q) dX6_far_117 ml_X6_170 im_X6_stands (hT.s 0 (by decide)) (hT.n 0 (by decide)) rfl rfl (dl1 (d := d) (by omega)) rfl rfl (Nat.le_of_ble_eq_true rfl) rfl rfl (Nat.zero_le _) (Nat.zero_le _) ?_
            refine aw_if_eq 127 dX6_far_120 (by decide) (fun c6 => ?_) (fun c6 => ?_)
            · refine aw_iconst (v := 0) dX6_far_127 (by decide) ?_
              refine aw_istore [(7, .int 0), (8, .int (nI i)), (6, .int (nI b)), (5, .int x), (4, .int j), (3, .int w), (0, .ref 0), (1, .int x1), (2, .int x2)] dX6_far_128 (Nat.le_of_ble_eq_true rfl) rfl ?_
              refine aw_iincN i 1 [(8, .int (nI (i + 1))), (7, .int 0), (6, .int (nI b)), (5, .int x), (4, .int j), (3, .int w), (0, .ref 0), (1, .int x1), (2, .int x2)] dX6_far_130 1 rfl rfl rfl (Nat.le_of_ble_eq_true rfl) rfl ?_
              refine aw_goto 72 dX6_far_133 (by decide) ?_
              have hz : z = false := bz_0.mp c2
              subst hz
              rw [any_f n (show faB M w b i = false by unfold faB; rw [lkR_3 c6, Bool.and_false])] at hk
              exact ih (i + 1) false (by omega) hk
            · refine aw_iconst (v := 1) dX6_far_123 (by decide) ?_
              refine aw_goto 128 dX6_far_124 (by decide) ?_
              refine aw_istore [(7, .int 1), (8, .int (nI i)), (6, .int (nI b)), (5, .int x), (4, .int j), (3, .int w), (0, .ref 0), (1, .int x1), (2, .int x2)] dX6_far_128 (Nat.le_of_ble_eq_true rfl) rfl ?_
              refine aw_iincN i 1 [(8, .int (nI (i + 1))), (7, .int 1), (6, .int (nI b)), (5, .int x), (4, .int j), (3, .int w), (0, .ref 0), (1, .int x1), (2, .int x2)] dX6_far_130 1 rfl rfl rfl (Nat.le_of_ble_eq_true rfl) rfl ?_
              refine aw_goto 72 dX6_far_133 (by decide) ?_
              have hz : z = false := bz_0.mp c2
              subst hz
              rw [any_t n (show faB M w b i = true by unfold faB; rw [decide_eq_true c3, lkR_t c4 c5 c6]; rfl)] at hk
              exact ih (i + 1) true (by omega) hk
theorem lp_far_mid {d : Nat} (hd : 1 ≤ d) {M : xM} (hT : TR M) (hZ : LenR M) (x1 x2 j w : Int32) {post : Option Value → xM → Prop} : ∀ (n i : Nat) (x : Int32), i + n = 12 → AW (fX6_far d) 160 [(6, .int (nI 12)), (5, .int (faM M w n i x)), (4, .int j), (3, .int w), (0, .ref 0), (1, .int x1), (2, .int x2)] [] M 0 0 post → AW (fX6_far d) 59 [(6, .int (nI i)), (5, .int x), (4, .int j), (3, .int w), (0, .ref 0), (1, .int x1), (2, .int x2)] [] M 0 0 post := by
  intro n
  induction n with
  | zero =>
    intro i x hi hk
    obtain rfl : i = 12 := by omega
    refine aw_iload dX6_far_59 0 rfl ?_
    refine aw_bipush (v := 12) dX6_far_61 (by decide) ?_
    refine aw_icmp_geN 12 12 160 dX6_far_63 (by decide) rfl rfl (by omega) (by omega) (fun c1 => ?_) (fun c1 => absurd (by omega) c1)
    exact hk
  | succ n ih =>
    intro i x hi hk
    refine aw_iload dX6_far_59 0 rfl ?_
    refine aw_bipush (v := 12) dX6_far_61 (by decide) ?_
    refine aw_icmp_geN i 12 160 dX6_far_63 (by decide) rfl rfl (by omega) (by omega) (fun c1 => absurd c1 (by omega)) (fun c1 => ?_)
    refine aw_iconst (v := 0) dX6_far_66 (by decide) ?_
    refine aw_istore [(7, .int 0), (6, .int (nI i)), (5, .int x), (4, .int j), (3, .int w), (0, .ref 0), (1, .int x1), (2, .int x2)] dX6_far_67 (Nat.le_of_ble_eq_true rfl) rfl ?_
    refine aw_iconst (v := 0) dX6_far_69 (by decide) ?_
    refine aw_istore [(8, .int 0), (7, .int 0), (6, .int (nI i)), (5, .int x), (4, .int j), (3, .int w), (0, .ref 0), (1, .int x1), (2, .int x2)] dX6_far_70 (Nat.le_of_ble_eq_true rfl) rfl ?_
    refine lp_far_in hd hT hZ i (by omega) x1 x2 x j w 12 0 false (by omega) ?_
    rw [Bool.false_or]
    have hk : AW (fX6_far d) 160 [(6, .int (nI 12)), (5, .int (faM M w n (i + 1) (x + (if any (faB M w i) 12 0 = true then (1 : Int32) <<< (nI i &&& 31) else 0)))), (4, .int j), (3, .int w), (0, .ref 0), (1, .int x1), (2, .int x2)] [] M 0 0 post := hk
    refine aw_iload dX6_far_136 3 rfl ?_
    refine aw_iload dX6_far_138 1 rfl ?_
    refine aw_if_eq 150 dX6_far_140 (by decide) (fun c1 => ?_) (fun c1 => ?_)
    · refine aw_iconst (v := 0) dX6_far_150 (by decide) ?_
      refine aw_iadd dX6_far_151 ?_
      refine aw_istore [(5, .int (x + 0)), (8, .int (nI 12)), (7, .int (bz (any (faB M w i) 12 0))), (6, .int (nI i)), (4, .int j), (3, .int w), (0, .ref 0), (1, .int x1), (2, .int x2)] dX6_far_152 (Nat.le_of_ble_eq_true rfl) rfl ?_
      refine aw_iincN i 1 [(6, .int (nI (i + 1))), (5, .int (x + 0)), (8, .int (nI 12)), (7, .int (bz (any (faB M w i) 12 0))), (4, .int j), (3, .int w), (0, .ref 0), (1, .int x1), (2, .int x2)] dX6_far_154 3 rfl rfl rfl (Nat.le_of_ble_eq_true rfl) rfl ?_
      refine aw_goto 59 dX6_far_157 (by decide) ?_
      refine aw_sub [0, 1, 4, 5, 6, 7, 8] rfl ?_
      rw [if_neg (show ¬ any (faB M w i) 12 0 = true by rw [bz_0.mp c1]; decide)] at hk
      exact ih (i + 1) _ (by omega) hk
    · refine aw_iconst (v := 1) dX6_far_143 (by decide) ?_
      refine aw_iload dX6_far_144 2 rfl ?_
      refine aw_ishl dX6_far_146 ?_
      refine aw_goto 151 dX6_far_147 (by decide) ?_
      refine aw_iadd dX6_far_151 ?_
      refine aw_istore [(5, .int (x + (1 <<< ((nI i) &&& 31)))), (8, .int (nI 12)), (7, .int (bz (any (faB M w i) 12 0))), (6, .int (nI i)), (4, .int j), (3, .int w), (0, .ref 0), (1, .int x1), (2, .int x2)] dX6_far_152 (Nat.le_of_ble_eq_true rfl) rfl ?_
      refine aw_iincN i 1 [(6, .int (nI (i + 1))), (5, .int (x + (1 <<< ((nI i) &&& 31)))), (8, .int (nI 12)), (7, .int (bz (any (faB M w i) 12 0))), (4, .int j), (3, .int w), (0, .ref 0), (1, .int x1), (2, .int x2)] dX6_far_154 3 rfl rfl rfl (Nat.le_of_ble_eq_true rfl) rfl ?_
      refine aw_goto 59 dX6_far_157 (by decide) ?_
      refine aw_sub [0, 1, 4, 5, 6, 7, 8] rfl ?_
      rw [if_pos (bz_n0.mp c1)] at hk
      exact ih (i + 1) _ (by omega) hk
theorem lp_X6_far {d : Nat} (hd : 1 ≤ d) {M : xM} (hT : TR M) (hZ : LenR M) (x1 x2 : Int32) : ∀ (n i : Nat) (w : Int32), i + n = 13 → AW (fX6_far d) 46 [(4, .int (nI i)), (3, .int w), (0, .ref 0), (1, .int x1), (2, .int x2)] [] M 0 0 (dt (some (.int (faR M x2 n i w))) M) := by
  intro n
  induction n with
  | zero =>
    intro i w hi
    obtain rfl : i = 13 := by omega
    refine aw_iload dX6_far_46 0 rfl ?_
    refine aw_bipush (v := 12) dX6_far_48 (by decide) ?_
    refine aw_icmp_gtN 13 12 181 dX6_far_50 (by decide) rfl rfl (by omega) (by omega) (fun c1 => ?_) (fun c1 => absurd (by omega) c1)
    refine aw_bipush (v := -4) dX6_far_181 (by decide) ?_
    refine aw_iret dX6_far_183 rfl (Nat.zero_le _) (Nat.zero_le _) ?_
    exact ⟨rfl, rfl⟩
  | succ n ih =>
    intro i w hi
    refine aw_iload dX6_far_46 0 rfl ?_
    refine aw_bipush (v := 12) dX6_far_48 (by decide) ?_
    refine aw_icmp_gtN i 12 181 dX6_far_50 (by decide) rfl rfl (by omega) (by omega) (fun c1 => absurd c1 (by omega)) (fun c1 => ?_)
    refine aw_iconst (v := 0) dX6_far_53 (by decide) ?_
    refine aw_istore [(5, .int 0), (4, .int (nI i)), (3, .int w), (0, .ref 0), (1, .int x1), (2, .int x2)] dX6_far_54 (Nat.le_of_ble_eq_true rfl) rfl ?_
    refine aw_iconst (v := 0) dX6_far_56 (by decide) ?_
    refine aw_istore [(6, .int 0), (5, .int 0), (4, .int (nI i)), (3, .int w), (0, .ref 0), (1, .int x1), (2, .int x2)] dX6_far_57 (Nat.le_of_ble_eq_true rfl) rfl ?_
    refine lp_far_mid hd hT hZ x1 x2 (nI i) w 12 0 0 (by omega) ?_
    refine aw_iload dX6_far_160 1 rfl ?_
    refine aw_istore_n [(3, .int (faM M w 12 0 0)), (6, .int (nI 12)), (5, .int (faM M w 12 0 0)), (4, .int (nI i)), (0, .ref 0), (1, .int x1), (2, .int x2)] dX6_far_162 (Nat.le_of_ble_eq_true rfl) rfl ?_
    refine aw_iload_n dX6_far_163 0 rfl ?_
    refine aw_iload_n dX6_far_164 6 rfl ?_
    refine aw_ishr dX6_far_165 ?_
    refine aw_iconst (v := 1) dX6_far_166 (by decide) ?_
    refine aw_iand dX6_far_167 ?_
    refine aw_iconst (v := 1) dX6_far_168 (by decide) ?_
    refine aw_icmp_ne 175 dX6_far_169 (by decide) (fun c1 => ?_) (fun c1 => ?_)
    · refine aw_iincN i 1 [(4, .int (nI (i + 1))), (3, .int (faM M w 12 0 0)), (6, .int (nI 12)), (5, .int (faM M w 12 0 0)), (0, .ref 0), (1, .int x1), (2, .int x2)] dX6_far_175 3 rfl rfl rfl (Nat.le_of_ble_eq_true rfl) rfl ?_
      refine aw_goto 46 dX6_far_178 (by decide) ?_
      refine aw_sub [0, 1, 4, 5, 6] rfl ?_
      rw [faR_f n i c1]
      exact ih (i + 1) _ (by omega)
    · refine aw_iload dX6_far_172 3 rfl ?_
      refine aw_iret dX6_far_174 rfl (Nat.zero_le _) (Nat.zero_le _) ?_
      rw [faR_t n i c1]
      exact ⟨rfl, rfl⟩
def sX6_far (M : xM) (x1 : Int32) (x2 : Int32) : Int32 := (if (bz (sX6_isThing (Int32.toInt64 x1))) = 0 then -1 else (if (bz (sX6_isThing (Int32.toInt64 x2))) = 0 then -1 else (if (mI M 1 x1.toNatClampNeg) < 0 then -5 else (if 0 ≤ (mI M 1 x2.toNatClampNeg) then faR M x2 12 1 (1 <<< (x1 &&& 31)) else -5))))
theorem sp_X6_far {d : Nat} (hd : 2 ≤ d) {M : xM} (x1 : Int32) (x2 : Int32) (hT : TR M)  (hZ : LenR M) : Sp (fX6_far d) [.ref 0, .int x1, .int x2] M (dt (some (.int (sX6_far M x1 x2))) (M)) := by
  refine Sp.of pn_X6 (Nat.le_of_ble_eq_true rfl) (fun h => Bool.noConfusion h) ?_
  refine aw_iload_n dX6_far_0 1 rfl ?_
  refine aw_i2l dX6_far_1 ?_
  refine aw_callSi [.long (Int32.toInt64 x1)] [] (sp_X6_isThing (d := d - 1) (by omega) (Int32.toInt64 x1) ) dX6_far_2 ml_X6_159 sm_X6_isThing rfl (dl1 (d := d) (by omega)) rfl rfl (Nat.le_of_ble_eq_true rfl) rfl rfl (Nat.zero_le _) (Nat.zero_le _) ?_
  refine aw_if_eq 16 dX6_far_5 (by decide) (fun c1 => ?_) (fun c1 => ?_)
  · refine aw_iconst (v := -1) dX6_far_16 (by decide) ?_
    refine aw_iret dX6_far_17 rfl (Nat.zero_le _) (Nat.zero_le _) ?_
    exact ⟨congrArg (fun z => some (Value.int z)) (show sX6_far M x1 x2 = -1 by unfold sX6_far; rw [if_pos c1]).symm, rfl⟩
  · refine aw_iload_n dX6_far_8 2 rfl ?_
    refine aw_i2l dX6_far_9 ?_
    refine aw_callSi [.long (Int32.toInt64 x2)] [] (sp_X6_isThing (d := d - 1) (by omega) (Int32.toInt64 x2) ) dX6_far_10 ml_X6_159 sm_X6_isThing rfl (dl1 (d := d) (by omega)) rfl rfl (Nat.le_of_ble_eq_true rfl) rfl rfl (Nat.zero_le _) (Nat.zero_le _) ?_
    refine aw_if_ne 18 dX6_far_13 (by decide) (fun c2 => ?_) (fun c2 => ?_)
    · refine aw_aload_n dX6_far_18 0 rfl ?_
      refine aw_getR (b := 1) dX6_far_19 fl_X6_7 rfl (hT.s 0 (by decide)) (hT.n 0 (by decide)) (hT.r 0) ?_
      refine aw_iload_n dX6_far_22 1 rfl ?_
      refine aw_iald dX6_far_23 (hT.s 1 (by decide)) (hT.n 1 (by decide)) (thing_vp c1) ?_
      refine aw_if_lt 36 dX6_far_24 (by decide) (fun c3 => ?_) (fun c3 => ?_)
      · refine aw_bipush (v := -5) dX6_far_36 (by decide) ?_
        refine aw_iret dX6_far_38 rfl (Nat.zero_le _) (Nat.zero_le _) ?_
        exact ⟨congrArg (fun z => some (Value.int z)) (show sX6_far M x1 x2 = -5 by unfold sX6_far; rw [if_neg c1, if_neg c2, if_pos c3]).symm, rfl⟩
      · refine aw_aload_n dX6_far_27 0 rfl ?_
        refine aw_getR (b := 1) dX6_far_28 fl_X6_7 rfl (hT.s 0 (by decide)) (hT.n 0 (by decide)) (hT.r 0) ?_
        refine aw_iload_n dX6_far_31 2 rfl ?_
        refine aw_iald dX6_far_32 (hT.s 1 (by decide)) (hT.n 1 (by decide)) (thing_vp c2) ?_
        refine aw_if_ge 39 dX6_far_33 (by decide) (fun c4 => ?_) (fun c4 => ?_)
        · refine aw_iconst (v := 1) dX6_far_39 (by decide) ?_
          refine aw_iload_n dX6_far_40 1 rfl ?_
          refine aw_ishl dX6_far_41 ?_
          refine aw_istore_n [(3, .int (1 <<< (x1 &&& 31))), (0, .ref 0), (1, .int x1), (2, .int x2)] dX6_far_42 (Nat.le_of_ble_eq_true rfl) rfl ?_
          refine aw_iconst (v := 1) dX6_far_43 (by decide) ?_
          refine aw_istore [(4, .int 1), (3, .int (1 <<< (x1 &&& 31))), (0, .ref 0), (1, .int x1), (2, .int x2)] dX6_far_44 (Nat.le_of_ble_eq_true rfl) rfl ?_
          refine aw_dt (lp_X6_far (by omega) hT hZ x1 x2 12 1 (1 <<< (x1 &&& 31)) (by omega)) (congrArg (fun z => some (Value.int z)) (show sX6_far M x1 x2 = faR M x2 12 1 (1 <<< (x1 &&& 31)) by unfold sX6_far; rw [if_neg c1, if_neg c2, if_neg c3, if_pos c4]).symm) (rfl)
        · refine aw_bipush (v := -5) dX6_far_36 (by decide) ?_
          refine aw_iret dX6_far_38 rfl (Nat.zero_le _) (Nat.zero_le _) ?_
          exact ⟨congrArg (fun z => some (Value.int z)) (show sX6_far M x1 x2 = -5 by unfold sX6_far; rw [if_neg c1, if_neg c2, if_neg c3, if_neg c4]).symm, rfl⟩
    · refine aw_iconst (v := -1) dX6_far_16 (by decide) ?_
      refine aw_iret dX6_far_17 rfl (Nat.zero_le _) (Nat.zero_le _) ?_
      exact ⟨congrArg (fun z => some (Value.int z)) (show sX6_far M x1 x2 = -1 by unfold sX6_far; rw [if_neg c1, if_pos c2]).symm, rfl⟩
