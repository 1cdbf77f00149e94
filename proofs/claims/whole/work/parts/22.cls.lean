-- THE CLASS: tests and searches
theorem le_vp {x : Int32} (n : Nat) {y : Int32} (hy : y.toInt = n) (hn : n < 2 ^ 30) (h1 : ¬ x < 0) (h2 : ¬ y < x) : vp_in x (n + 1) := by
  have a1 : ¬ x.toInt < (0 : Int) := fun z => h1 (Int32.lt_iff_toInt_lt.mpr z)
  have a2 : ¬ (n : Int) < x.toInt := fun z => h2 (Int32.lt_iff_toInt_lt.mpr (by rw [hy]; exact z))
  rw [vp_in_iff]
  omega
theorem kind_vp {x : Int32} (h : ¬ bz (sX0_isKind x) = 0) : vp_in x 8 := by
  have h := bz_n0.mp h
  unfold sX0_isKind at h
  by_cases h1 : x < 0
  · rw [if_pos h1] at h; cases h
  · by_cases h2 : 7 < x
    · rw [if_neg h1, if_pos h2] at h; cases h
    · exact le_vp 7 rfl (by decide) h1 h2
def sX0_widens (x1 : Int32) (x2 : Int32) : Bool := (if (bz (sX0_isKind x1)) = 0 then false else (if (bz (sX0_isKind x2)) = 0 then false else (if (((tWIDER.getD x1.toNatClampNeg 0) >>> (x2 &&& 31)) &&& 1) = 1 then true else false)))
theorem sp_X0_widens {d : Nat} (hd : 1 ≤ d) {M : xM} (x1 : Int32) (x2 : Int32)  : Sp (fX0_widens d) [.int x1, .int x2] M (dt (some (.int (bz (sX0_widens x1 x2)))) (M)) := by
  refine Sp.of pn_X0 (Nat.le_of_ble_eq_true rfl) (fun h => Bool.noConfusion h) ?_
  refine aw_iload_n dX0_widens_0 0 rfl ?_
  refine aw_callSi [.int x1] [] (sp_X0_isKind (d := d - 1) (by omega) x1 ) dX0_widens_1 ml_X0_9 sm_X0_isKind rfl (dl1 (d := d) (by omega)) rfl rfl (Nat.le_of_ble_eq_true rfl) rfl rfl (Nat.zero_le _) (Nat.zero_le _) ?_
  refine aw_if_eq 31 dX0_widens_4 (by decide) (fun c1 => ?_) (fun c1 => ?_)
  · refine aw_iconst (v := 0) dX0_widens_31 (by decide) ?_
    refine aw_zret dX0_widens_32 rfl rfl (Nat.zero_le _) (Nat.zero_le _) ?_
    exact ⟨congrArg (fun z => some (Value.int (bz z))) (show sX0_widens x1 x2 = false by unfold sX0_widens; rw [if_pos c1]).symm, rfl⟩
  · refine aw_iload_n dX0_widens_7 1 rfl ?_
    refine aw_callSi [.int x2] [] (sp_X0_isKind (d := d - 1) (by omega) x2 ) dX0_widens_8 ml_X0_9 sm_X0_isKind rfl (dl1 (d := d) (by omega)) rfl rfl (Nat.le_of_ble_eq_true rfl) rfl rfl (Nat.zero_le _) (Nat.zero_le _) ?_
    refine aw_if_eq 31 dX0_widens_11 (by decide) (fun c2 => ?_) (fun c2 => ?_)
    · refine aw_iconst (v := 0) dX0_widens_31 (by decide) ?_
      refine aw_zret dX0_widens_32 rfl rfl (Nat.zero_le _) (Nat.zero_le _) ?_
      exact ⟨congrArg (fun z => some (Value.int (bz z))) (show sX0_widens x1 x2 = false by unfold sX0_widens; rw [if_neg c1, if_pos c2]).symm, rfl⟩
    · refine aw_gets (j := 0) dX0_widens_14 (by decide) fs_X0_15 ?_
      refine aw_iload_n dX0_widens_17 0 rfl ?_
      refine aw_siald (v := tWIDER.getD x1.toNatClampNeg 0) (j := 0) dX0_widens_18 (by decide) rfl (kind_vp c1) rfl ?_
      refine aw_iload_n dX0_widens_19 1 rfl ?_
      refine aw_ishr dX0_widens_20 ?_
      refine aw_iconst (v := 1) dX0_widens_21 (by decide) ?_
      refine aw_iand dX0_widens_22 ?_
      refine aw_iconst (v := 1) dX0_widens_23 (by decide) ?_
      refine aw_icmp_ne 31 dX0_widens_24 (by decide) (fun c3 => ?_) (fun c3 => ?_)
      · refine aw_iconst (v := 0) dX0_widens_31 (by decide) ?_
        refine aw_zret dX0_widens_32 rfl rfl (Nat.zero_le _) (Nat.zero_le _) ?_
        exact ⟨congrArg (fun z => some (Value.int (bz z))) (show sX0_widens x1 x2 = false by unfold sX0_widens; rw [if_neg c1, if_neg c2, if_neg c3]).symm, rfl⟩
      · refine aw_iconst (v := 1) dX0_widens_27 (by decide) ?_
        refine aw_goto 32 dX0_widens_28 (by decide) ?_
        refine aw_zret dX0_widens_32 rfl rfl (Nat.zero_le _) (Nat.zero_le _) ?_
        exact ⟨congrArg (fun z => some (Value.int (bz z))) (show sX0_widens x1 x2 = true by unfold sX0_widens; rw [if_neg c1, if_neg c2, if_pos c3]).symm, rfl⟩
def sX0_fits (x1 : Int32) (x2 : Int64) : Bool := (if 5 < x1 then true else (if x1 < 0 then false else (if x2 < (tLEAST.getD x1.toNatClampNeg 0) then false else (if (tGREATEST.getD x1.toNatClampNeg 0) < x2 then false else true))))
theorem sp_X0_fits {d : Nat} (hd : 0 ≤ d) {M : xM} (x1 : Int32) (x2 : Int64)  : Sp (fX0_fits d) [.int x1, .long x2] M (dt (some (.int (bz (sX0_fits x1 x2)))) (M)) := by
  refine Sp.of pn_X0 (Nat.le_of_ble_eq_true rfl) (fun h => Bool.noConfusion h) ?_
  refine aw_iload_n dX0_fits_0 0 rfl ?_
  refine aw_iconst (v := 5) dX0_fits_1 (by decide) ?_
  refine aw_icmp_gt 29 dX0_fits_2 (by decide) (fun c1 => ?_) (fun c1 => ?_)
  · refine aw_iconst (v := 1) dX0_fits_29 (by decide) ?_
    refine aw_goto 34 dX0_fits_30 (by decide) ?_
    refine aw_zret dX0_fits_34 rfl rfl (Nat.zero_le _) (Nat.zero_le _) ?_
    exact ⟨congrArg (fun z => some (Value.int (bz z))) (show sX0_fits x1 x2 = true by unfold sX0_fits; rw [if_pos c1]).symm, rfl⟩
  · refine aw_iload_n dX0_fits_5 0 rfl ?_
    refine aw_if_lt 33 dX0_fits_6 (by decide) (fun c2 => ?_) (fun c2 => ?_)
    · refine aw_iconst (v := 0) dX0_fits_33 (by decide) ?_
      refine aw_zret dX0_fits_34 rfl rfl (Nat.zero_le _) (Nat.zero_le _) ?_
      exact ⟨congrArg (fun z => some (Value.int (bz z))) (show sX0_fits x1 x2 = false by unfold sX0_fits; rw [if_neg c1, if_pos c2]).symm, rfl⟩
    · refine aw_lload_n dX0_fits_9 1 rfl ?_
      refine aw_gets (j := 1) dX0_fits_10 (by decide) fs_X0_19 ?_
      refine aw_iload_n dX0_fits_13 0 rfl ?_
      refine aw_slald (v := tLEAST.getD x1.toNatClampNeg 0) (j := 1) dX0_fits_14 (by decide) rfl (le_vp 5 rfl (by decide) c2 c1) rfl ?_
      refine aw_llt 33 dX0_fits_15 dX0_fits_16 (by decide) (fun c3 => ?_) (fun c3 => ?_)
      · refine aw_iconst (v := 0) dX0_fits_33 (by decide) ?_
        refine aw_zret dX0_fits_34 rfl rfl (Nat.zero_le _) (Nat.zero_le _) ?_
        exact ⟨congrArg (fun z => some (Value.int (bz z))) (show sX0_fits x1 x2 = false by unfold sX0_fits; rw [if_neg c1, if_neg c2, if_pos c3]).symm, rfl⟩
      · refine aw_lload_n dX0_fits_19 1 rfl ?_
        refine aw_gets (j := 2) dX0_fits_20 (by decide) fs_X0_23 ?_
        refine aw_iload_n dX0_fits_23 0 rfl ?_
        refine aw_slald (v := tGREATEST.getD x1.toNatClampNeg 0) (j := 2) dX0_fits_24 (by decide) rfl (le_vp 5 rfl (by decide) c2 c1) rfl ?_
        refine aw_lgt 33 dX0_fits_25 dX0_fits_26 (by decide) (fun c4 => ?_) (fun c4 => ?_)
        · refine aw_iconst (v := 0) dX0_fits_33 (by decide) ?_
          refine aw_zret dX0_fits_34 rfl rfl (Nat.zero_le _) (Nat.zero_le _) ?_
          exact ⟨congrArg (fun z => some (Value.int (bz z))) (show sX0_fits x1 x2 = false by unfold sX0_fits; rw [if_neg c1, if_neg c2, if_neg c3, if_pos c4]).symm, rfl⟩
        · refine aw_iconst (v := 1) dX0_fits_29 (by decide) ?_
          refine aw_goto 34 dX0_fits_30 (by decide) ?_
          refine aw_zret dX0_fits_34 rfl rfl (Nat.zero_le _) (Nat.zero_le _) ?_
          exact ⟨congrArg (fun z => some (Value.int (bz z))) (show sX0_fits x1 x2 = true by unfold sX0_fits; rw [if_neg c1, if_neg c2, if_neg c3, if_neg c4]).symm, rfl⟩
theorem wdg_big : ∀ (k v : Nat), 27 ^ k ≤ v → wdg k v = false
  | 0, v, h => by
    have h1 : (1 : Nat) ≤ v := by simpa using h
    exact decide_eq_false (by omega)
  | k + 1, v, h => by
    have h3 : 27 ^ (k + 1) = 27 ^ k * 27 := Nat.pow_succ 27 k
    have h4 : 27 ^ k ≤ v / 27 := (Nat.le_div_iff_mul_le (by decide)).mpr (by rw [← h3]; exact h)
    have h5 := wdg_big k (v / 27) h4
    have h6 : 0 < 27 ^ k := Nat.pow_pos (by decide)
    simp [wdg, h5]
    omega
theorem wrd_ge {c : Int64} (h : (10460353202 : Int64) < c) : wrd c = false := by
  have h1 : (10460353202 : Int) < c.toInt := Int64.lt_iff_toInt_lt.mp h
  unfold wrd
  rw [wdg_big 7 c.toInt.toNat (by omega), Bool.and_false]
theorem wrd_lt {c : Int64} (h : c < 1) : wrd c = false := by
  have h1 : c.toInt < (1 : Int) := Int64.lt_iff_toInt_lt.mp h
  apply wrd_f
  intro z
  have h2 : (0 : Int) < c.toInt := Int64.lt_iff_toInt_lt.mp z
  omega
theorem sp_X5_isWord {d : Nat} (hd : 0 ≤ d) {M : xM} (x1 : Int64) : Sp (fX5_isWord d) [.long x1] M (dt (some (.int (bz (wrd x1)))) M) := by
  refine Sp.of pn_X5 (Nat.le_of_ble_eq_true rfl) (fun h => Bool.noConfusion h) ?_
  by_cases hp : x1 < 1
  · rw [wrd_lt hp]
    refine aw_lload_n dX5_isWord_0 0 rfl ?_
    refine aw_lconst (v := 1) dX5_isWord_1 (by decide) ?_
    refine aw_llt 14 dX5_isWord_2 dX5_isWord_3 (by decide) (fun c1 => ?_) (fun c1 => absurd hp c1)
    refine aw_iconst (v := 0) dX5_isWord_14 (by decide) ?_
    refine aw_zret dX5_isWord_15 rfl rfl (Nat.zero_le _) (Nat.zero_le _) ?_
    exact ⟨rfl, rfl⟩
  · by_cases hq : 10460353202 < x1
    · rw [wrd_ge hq]
      refine aw_lload_n dX5_isWord_0 0 rfl ?_
      refine aw_lconst (v := 1) dX5_isWord_1 (by decide) ?_
      refine aw_llt 14 dX5_isWord_2 dX5_isWord_3 (by decide) (fun c1 => absurd c1 hp) (fun c1 => ?_)
      refine aw_lload_n dX5_isWord_6 0 rfl ?_
      refine aw_ldc2 dX5_isWord_7 kc_X5_311 ?_
      refine aw_lle 16 dX5_isWord_10 dX5_isWord_11 (by decide) (fun c2 => absurd c2 (Int64.not_le.mpr hq)) (fun c2 => ?_)
      refine aw_iconst (v := 0) dX5_isWord_14 (by decide) ?_
      refine aw_zret dX5_isWord_15 rfl rfl (Nat.zero_le _) (Nat.zero_le _) ?_
      exact ⟨rfl, rfl⟩
    · have hp1 : ¬ x1.toInt < (1 : Int) := fun z => hp (Int64.lt_iff_toInt_lt.mpr z)
      have hq1 : ¬ (10460353202 : Int) < x1.toInt := fun z => hq (Int64.lt_iff_toInt_lt.mpr z)
      have hpos : 0 < x1 := Int64.lt_iff_toInt_lt.mpr (by show (0 : Int) < _; omega)
      obtain ⟨e1, e2, e3⟩ := lN_toNat hpos
      have hw : wrd x1 = wdg 7 x1.toInt.toNat := by unfold wrd; rw [decide_eq_true hpos]; rfl
      have e4 : x1.toInt.toNat < 27 ^ 7 := by
        show _ < 10460353203
        omega
      rw [hw]
      refine aw_lload_n dX5_isWord_0 0 rfl ?_
      refine aw_lconst (v := 1) dX5_isWord_1 (by decide) ?_
      refine aw_llt 14 dX5_isWord_2 dX5_isWord_3 (by decide) (fun c1 => absurd c1 hp) (fun c1 => ?_)
      refine aw_lload_n dX5_isWord_6 0 rfl ?_
      refine aw_ldc2 dX5_isWord_7 kc_X5_311 ?_
      refine aw_lle 16 dX5_isWord_10 dX5_isWord_11 (by decide) (fun c2 => ?_) (fun c2 => absurd (Int64.not_lt.mp hq) c2)
      generalize x1.toInt.toNat = w at e1 e2 e3 e4 hw ⊢
      subst e1
      have loop : ∀ (n i v : Nat), i + n = 7 → v < 2 ^ 63 → v < 27 ^ (7 - i) → AW (fX5_isWord d) 21 [(4, .int (nI i)), (2, .long (lN v)), (0, .long (lN w))] [] M 0 0 (dt (some (.int (bz (wdg (7 - i) v)))) M) := by
        intro n
        induction n with
        | zero =>
          intro i v hi hv63 hv
          refine aw_iload dX5_isWord_21 0 rfl ?_
          refine aw_bipush (v := 7) dX5_isWord_23 (by decide) ?_
          refine aw_icmp_geN i 7 58 dX5_isWord_25 (by decide) rfl rfl (by omega) (by omega) (fun c1 => ?_) (fun c1 => absurd (by omega) c1)
          refine aw_iconst (v := 1) dX5_isWord_58 (by decide) ?_
          refine aw_zret dX5_isWord_59 rfl rfl (Nat.zero_le _) (Nat.zero_le _) ?_
          have hv0 : v = 0 := by first | omega | (have : i = 7 := by omega) <;> (subst this; simpa using hv)
          subst hv0
          exact ⟨congrArg (fun z => some (Value.int (bz z))) (wdg_0 (7 - i)).symm, rfl⟩
        | succ n ih =>
          intro i v hi hv63 hv
          refine aw_iload dX5_isWord_21 0 rfl ?_
          refine aw_bipush (v := 7) dX5_isWord_23 (by decide) ?_
          refine aw_icmp_geN i 7 58 dX5_isWord_25 (by decide) rfl rfl (by omega) (by omega) (fun c1 => absurd c1 (by omega)) (fun c1 => ?_)
          refine aw_lload_n dX5_isWord_28 1 rfl ?_
          refine aw_lconst (v := 0) dX5_isWord_29 (by decide) ?_
          refine aw_lleN v 0 58 dX5_isWord_30 dX5_isWord_31 (by decide) rfl rfl (by omega) (by omega) (fun c2 => ?_) (fun c2 => ?_)
          · refine aw_iconst (v := 1) dX5_isWord_58 (by decide) ?_
            refine aw_zret dX5_isWord_59 rfl rfl (Nat.zero_le _) (Nat.zero_le _) ?_
            have hv0 : v = 0 := by first | omega | (have : i = 7 := by omega) <;> (subst this; simpa using hv)
            subst hv0
            exact ⟨congrArg (fun z => some (Value.int (bz z))) (wdg_0 (7 - i)).symm, rfl⟩
          · refine aw_lload_n dX5_isWord_34 1 rfl ?_
            refine aw_ldc2 dX5_isWord_35 kc_X5_313 ?_
            refine aw_lremN v 27 dX5_isWord_38 rfl rfl (by omega) (by first | decide | omega) (by first | decide | omega) ?_
            refine aw_lconst (v := 0) dX5_isWord_39 (by decide) ?_
            refine aw_lneN (v % 27) 0 46 dX5_isWord_40 dX5_isWord_41 (by decide) rfl rfl (by omega) (by omega) (fun c3 => ?_) (fun c3 => ?_)
            · refine aw_lload_n dX5_isWord_46 1 rfl ?_
              refine aw_ldc2 dX5_isWord_47 kc_X5_313 ?_
              refine aw_ldivN v 27 dX5_isWord_50 rfl rfl (by omega) (by first | decide | omega) (by first | decide | omega) ?_
              refine aw_lstore_n [(2, .long (lN (v / 27))), (4, .int (nI i)), (0, .long (lN w))] dX5_isWord_51 (Nat.le_of_ble_eq_true rfl) rfl ?_
              refine aw_iincN i 1 [(4, .int (nI (i + 1))), (2, .long (lN (v / 27))), (0, .long (lN w))] dX5_isWord_52 1 rfl rfl rfl (Nat.le_of_ble_eq_true rfl) rfl ?_
              refine aw_goto 21 dX5_isWord_55 (by decide) ?_
              rw [show 7 - i = 7 - (i + 1) + 1 by omega, wdg_s (by omega) c3]
              refine ih (i + 1) (v / 27) (by omega) (by omega) ?_
              rw [show 7 - i = 7 - (i + 1) + 1 by omega, Nat.pow_succ] at hv
              exact Nat.div_lt_of_lt_mul (by rw [Nat.mul_comm]; exact hv)
            · refine aw_iconst (v := 0) dX5_isWord_44 (by decide) ?_
              refine aw_zret dX5_isWord_45 rfl rfl (Nat.zero_le _) (Nat.zero_le _) ?_
              exact ⟨congrArg (fun z => some (Value.int (bz z))) (wdg_z (k := 7 - i) (by omega) c3).symm, rfl⟩
      refine aw_lload_n dX5_isWord_16 0 rfl ?_
      refine aw_lstore_n [(2, .long (lN w)), (0, .long (lN w))] dX5_isWord_17 (Nat.le_of_ble_eq_true rfl) rfl ?_
      refine aw_iconst (v := 0) dX5_isWord_18 (by decide) ?_
      refine aw_istore [(4, .int 0), (2, .long (lN w)), (0, .long (lN w))] dX5_isWord_19 (Nat.le_of_ble_eq_true rfl) rfl ?_
      exact loop 7 0 w (by omega) e3 e4
def lsd (p : Nat → Bool) (x : Int32) : Nat → Nat → Int32
  | 0, _ => x
  | n + 1, i => if p i = true then nI i else lsd p x n (i + 1)
theorem lsd_t {p : Nat → Bool} {x : Int32} {i : Nat} (n : Nat) (h : p i = true) : lsd p x (n + 1) i = nI i := if_pos h
theorem lsd_f {p : Nat → Bool} {x : Int32} {i : Nat} (n : Nat) (h : p i = false) : lsd p x (n + 1) i = lsd p x n (i + 1) := if_neg (by rw [h]; decide)
abbrev nmP (x : Int64) (k : Nat) : Bool := decide (tNAMES.getD k 0 = x)
def knm (x : Int64) : Int32 := lsd (nmP x) (-4) 16 0
theorem sp_X5_kindNamed {d : Nat} (hd : 0 ≤ d) {M : xM} (x1 : Int64) : Sp (fX5_kindNamed d) [.long x1] M (dt (some (.int (knm x1))) M) := by
  refine Sp.of pn_X5 (Nat.le_of_ble_eq_true rfl) (fun h => Bool.noConfusion h) ?_
  have loop : ∀ (n i : Nat) , i + n = 16 → AW (fX5_kindNamed d) 2 [(2, .int (nI i)), (0, .long x1)] [] M 0 0 (dt (some (.int (lsd (nmP x1) (-4) n i))) M) := by
    intro n
    induction n with
    | zero =>
      intro i  hi 
      refine aw_iload_n dX5_kindNamed_2 0 rfl ?_
      refine aw_gets (j := 4) dX5_kindNamed_3 (by decide) fs_X5_270 ?_
      refine aw_salen (v := 16) (j := 4) dX5_kindNamed_6 (by decide) (by decide) ?_
      refine aw_icmp_geN i 16 28 dX5_kindNamed_7 (by decide) rfl rfl (by omega) (by omega) (fun c1 => ?_) (fun c1 => absurd (by omega) c1)
      refine aw_bipush (v := -4) dX5_kindNamed_28 (by decide) ?_
      refine aw_iret dX5_kindNamed_30 rfl (Nat.zero_le _) (Nat.zero_le _) ?_
      exact ⟨rfl, rfl⟩
    | succ n ih =>
      intro i  hi 
      refine aw_iload_n dX5_kindNamed_2 0 rfl ?_
      refine aw_gets (j := 4) dX5_kindNamed_3 (by decide) fs_X5_270 ?_
      refine aw_salen (v := 16) (j := 4) dX5_kindNamed_6 (by decide) (by decide) ?_
      refine aw_icmp_geN i 16 28 dX5_kindNamed_7 (by decide) rfl rfl (by omega) (by omega) (fun c1 => absurd c1 (by omega)) (fun c1 => ?_)
      refine aw_gets (j := 4) dX5_kindNamed_10 (by decide) fs_X5_270 ?_
      refine aw_iload_n dX5_kindNamed_13 0 rfl ?_
      refine aw_slald (v := tNAMES.getD i 0) (j := 4) dX5_kindNamed_14 (by decide) rfl (show vp_in (nI i) 16 from vp_in_nI (by omega) (by decide)) (by rw [nI_clamp (by omega)]; rfl) ?_
      refine aw_lload_n dX5_kindNamed_15 1 rfl ?_
      refine aw_lne 22 dX5_kindNamed_16 dX5_kindNamed_17 (by decide) (fun c2 => ?_) (fun c2 => ?_)
      · refine aw_iincN i 1 [(2, .int (nI (i + 1))), (0, .long x1)] dX5_kindNamed_22 0 rfl rfl rfl (Nat.le_of_ble_eq_true rfl) rfl ?_
        refine aw_goto 2 dX5_kindNamed_25 (by decide) ?_
        rw [lsd_f n (show nmP x1 i = false from decide_eq_false c2)]
        exact ih (i + 1) (by omega)
      · refine aw_iload_n dX5_kindNamed_20 0 rfl ?_
        refine aw_iret dX5_kindNamed_21 rfl (Nat.zero_le _) (Nat.zero_le _) ?_
        rw [lsd_t n (show nmP x1 i = true from decide_eq_true c2)]
        exact ⟨rfl, rfl⟩
  refine aw_iconst (v := 0) dX5_kindNamed_0 (by decide) ?_
  refine aw_istore_n [(2, .int 0), (0, .long x1)] dX5_kindNamed_1 (Nat.le_of_ble_eq_true rfl) rfl ?_
  exact loop 16 0 (by omega)
