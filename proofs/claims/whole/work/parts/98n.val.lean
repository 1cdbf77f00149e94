-- VALUEOF: the reference
def exK (k : Nat) : Nat := if k = 6 then 8 else 11
theorem d0_p {R : Nat} (hR : R ≤ 52) : FP.ddiv FP.dconst0 (nd false (2 ^ 52) ((R : Int) - 52)) = FP.dconst0 := (by decide +kernel : ∀ R : Nat, R ≤ 52 → FP.ddiv FP.dconst0 (nd false (2 ^ 52) ((R : Int) - 52)) = FP.dconst0) R hR
theorem a1_0 : FP.dadd FP.dconst1 FP.dconst0 = nd false (2 ^ 52) (-52) := by decide +kernel
theorem add1_n {F R : Nat} (h0 : 0 < F) (hF : F < 2 ^ R) (hR : R ≤ 52) : FP.dadd FP.dconst1 (nd false (F * 2 ^ (52 - F.log2)) ((F.log2 : Int) - 52 - R)) = nd false (2 ^ 52 + F * 2 ^ (52 - R)) (-52) := by
  have hF53 : F < 2 ^ 53 := Nat.lt_of_lt_of_le hF (Nat.pow_le_pow_right (by decide) (by omega))
  have hm := (l2d_ex (n := F) false h0 hF53).2
  have hL : F.log2 < R := (Nat.log2_lt (by omega)).mpr hF
  have hm2 : nrm (F * 2 ^ (52 - F.log2)) ((F.log2 : Int) - 52 - R) := nrmw _ hm (by omega) (by omega)
  have e52 : 2 ^ 52 = 2 ^ R * 2 ^ (52 - R) := by rw [← Nat.pow_add, show R + (52 - R) = 52 by omega]
  have hlt : F * 2 ^ (52 - R) < 2 ^ 52 := by rw [e52]; exact Nat.mul_lt_mul_of_pos_right hF (Nat.two_pow_pos _)
  have hc : nrm (2 ^ 52 + F * 2 ^ (52 - R)) (-52) := ⟨by omega, by omega, by decide, by decide⟩
  apply nd_of
  show FP.Core.val64 (FP.Core.dadd _ _) = _
  rw [FP.Core.val64_dadd, show FP.Core.val64 FP.dconst1 = .fin false (2 ^ 52) (-52) by decide +kernel, hm2.val]
  generalize F.log2 = L at hL ⊢
  have em : min (-52 : Int) ((L : Int) - 52 - R) = (L : Int) - 52 - R := by omega
  have e : FP.Core.sumUnits false (2 ^ 52) (-52) false (F * 2 ^ (52 - L)) ((L : Int) - 52 - R) (min (-52) ((L : Int) - 52 - R)) = ((2 ^ 52 * 2 ^ (R - L) + F * 2 ^ (52 - L) : Nat) : Int) := by
    rw [em]
    unfold FP.Core.sumUnits FP.Core.inUnits
    rw [show (-52 - ((L : Int) - 52 - R)).toNat = R - L by omega, show ((L : Int) - 52 - R - ((L : Int) - 52 - R)).toNat = 0 by omega, Nat.pow_zero, Nat.mul_one]
    show ((2 ^ 52 * 2 ^ (R - L) : Nat) : Int) + ((F * 2 ^ (52 - L) : Nat) : Int) = _
    rw [Int.natCast_add]
  show FP.Core.round FP.Core.b64 (.fin (FP.Core.sumSign false false (FP.Core.sumUnits false (2 ^ 52) (-52) false (F * 2 ^ (52 - L)) ((L : Int) - 52 - R) (min (-52) ((L : Int) - 52 - R)))) (FP.Core.sumUnits false (2 ^ 52) (-52) false (F * 2 ^ (52 - L)) ((L : Int) - 52 - R) (min (-52) ((L : Int) - 52 - R))).natAbs (min (-52) ((L : Int) - 52 - R))) = _
  rw [e, em, Int.natAbs_natCast, show FP.Core.sumSign false false ((2 ^ 52 * 2 ^ (R - L) + F * 2 ^ (52 - L) : Nat) : Int) = false by
    unfold FP.Core.sumSign
    split
    · rfl
    · exact decide_eq_false (by omega)]
  refine rnd_ex hc ?_
  rw [show ((L : Int) - 52 - R - -52).toNat = 0 by omega, show (-52 - ((L : Int) - 52 - R)).toNat = R - L by omega, Nat.pow_zero, Nat.mul_one, show 2 ^ (52 - L) = 2 ^ (52 - R) * 2 ^ (R - L) by rw [← Nat.pow_add, show 52 - R + (R - L) = 52 - L by omega], Nat.add_mul, Nat.mul_assoc F]
/-- 1 + rest / 2^R -/
theorem one_of {c R : Nat} (hR : R ≤ 52) (h1 : 2 ^ R ≤ c) (h2 : c < 2 ^ (R + 1)) : ∃ x y : UInt64, FP.l2d (lN (c - 2 ^ R)) = x ∧ FP.ddiv x (nd false (2 ^ 52) ((R : Int) - 52)) = y ∧ vf_n64 y ∧ FP.dadd FP.dconst1 y = nd false (c * 2 ^ (52 - R)) (-52) := by
  have e52 : 2 ^ 52 = 2 ^ R * 2 ^ (52 - R) := by rw [← Nat.pow_add, show R + (52 - R) = 52 by omega]
  rw [Nat.pow_succ] at h2
  by_cases g : c = 2 ^ R
  · refine ⟨FP.dconst0, FP.dconst0, ?_, d0_p hR, n64_0, ?_⟩
    · rw [g, Nat.sub_self]; exact l2d_0
    · rw [g, ← e52]; exact a1_0
  · have hF : c - 2 ^ R < 2 ^ R := by omega
    have hF53 : c - 2 ^ R < 2 ^ 53 := Nat.lt_of_lt_of_le hF (Nat.pow_le_pow_right (by decide) (by omega))
    obtain ⟨g1, g2⟩ := l2d_ex (n := c - 2 ^ R) false (by omega) hF53
    have hp : nrm (2 ^ 52) ((R : Int) - 52) := ⟨by decide, by decide, by omega, by omega⟩
    have hL : (c - 2 ^ R).log2 < R := (Nat.log2_lt (by omega)).mpr hF
    have hn : nrm ((c - 2 ^ R) * 2 ^ (52 - (c - 2 ^ R).log2)) (((c - 2 ^ R).log2 : Int) - 52 - R) := nrmw _ g2 (by omega) (by omega)
    refine ⟨_, _, g1, ddiv_p (R : Int) g2 hn (hp.val false), hn.n _, ?_⟩
    rw [add1_n (by omega) hF hR]
    have e : 2 ^ 52 + (c - 2 ^ R) * 2 ^ (52 - R) = c * 2 ^ (52 - R) := by
      rw [e52, ← Nat.add_mul]
      congr 1
      omega
    rw [e]
theorem nI_p0 {n : Nat} (h : n < 100000) : ¬ nI (n + 1) ≤ 0 := by
  intro z
  have := Int32.le_iff_toInt_le.mp z
  rw [nI_toInt (by omega)] at this
  have e0 : (0 : Int32).toInt = 0 := rfl
  omega
theorem nI_m0 {n : Nat} (h : n < 100000) : (-(nI (n + 1)) : Int32) < 0 := by
  rw [Int32.lt_iff_toInt_lt, Int32.toInt_neg, nI_toInt (by omega), Int.bmod_eq_of_le (by omega) (by omega)]
  show -((n + 1 : Nat) : Int) < 0
  omega
theorem lp_val1 {d : Nat} {M : xM} (v rs : Int64) (x y z : Int32) (c : Nat) {r : Int} (h : nrm c r) {post : Option Value → xM → Prop} : ∀ (n : Nat) (q : Int), -200 ≤ q → q + n ≤ 200 → AW (fX6_valueOf d) 52 [(8, .double (nd false c (q + n))), (7, .int (nI 0)), (5, .long rs), (0, .long v), (2, .int x), (3, .int y), (4, .int z)] [] M 0 0 post → AW (fX6_valueOf d) 33 [(8, .double (nd false c q)), (7, .int (nI n)), (5, .long rs), (0, .long v), (2, .int x), (3, .int y), (4, .int z)] [] M 0 0 post := by
  intro n
  induction n with
  | zero =>
    intro q h1 h2 hk
    rw [show q + ((0 : Nat) : Int) = q by omega] at hk
    refine aw_iload dX6_valueOf_33 1 rfl ?_
    refine aw_if_le 52 dX6_valueOf_35 (by decide) (fun c1 => ?_) (fun c1 => absurd (by decide) c1)
    exact hk
  | succ n ih =>
    intro q h1 h2 hk
    rw [show q + ((n + 1 : Nat) : Int) = q + 1 + (n : Int) by omega] at hk
    have g := ih (q + 1) (by omega) (by omega) hk
    refine aw_iload dX6_valueOf_33 1 rfl ?_
    refine aw_if_le 52 dX6_valueOf_35 (by decide) (fun c1 => absurd c1 (nI_p0 (by omega))) (fun c1 => ?_)
    refine aw_dload dX6_valueOf_38 0 rfl ?_
    refine aw_ldc2d dX6_valueOf_40 kc_X6_91 ?_
    refine aw_dmul dX6_valueOf_43 (n64e (dmul_p 1 (nrmw _ h (by omega) (by omega)) (nrmw _ h (by omega) (by omega)) k2) ((nrmw _ h (by omega) (by omega)).n _)) ?_
    refine aw_topdE (dmul_p 1 (nrmw _ h (by omega) (by omega)) (nrmw _ h (by omega) (by omega)) k2) ?_
    refine aw_dstore [(8, .double (nd false c (q + 1))), (7, .int (nI (n + 1))), (5, .long rs), (0, .long v), (2, .int x), (3, .int y), (4, .int z)] dX6_valueOf_44 (Nat.le_of_ble_eq_true rfl) rfl ?_
    refine aw_iincN1 n [(7, .int (nI n)), (8, .double (nd false c (q + 1))), (5, .long rs), (0, .long v), (2, .int x), (3, .int y), (4, .int z)] dX6_valueOf_46 1 rfl rfl (Nat.le_of_ble_eq_true rfl) rfl ?_
    refine aw_goto 33 dX6_valueOf_49 (by decide) ?_
    refine aw_sub [1, 0, 2, 3, 4, 5, 6] rfl ?_
    exact g
theorem lp_val2 {d : Nat} {M : xM} (v rs : Int64) (x y z : Int32) (c : Nat) {r : Int} (h : nrm c r) {post : Option Value → xM → Prop} : ∀ (n : Nat) (q : Int) (w : Int32), w = -(nI n) → q ≤ 200 → -200 ≤ q - n → AW (fX6_valueOf d) 71 [(8, .double (nd false c (q - n))), (7, .int (nI 0)), (5, .long rs), (0, .long v), (2, .int x), (3, .int y), (4, .int z)] [] M 0 0 post → AW (fX6_valueOf d) 52 [(8, .double (nd false c q)), (7, .int w), (5, .long rs), (0, .long v), (2, .int x), (3, .int y), (4, .int z)] [] M 0 0 post := by
  intro n
  induction n with
  | zero =>
    intro q w hw h1 h2 hk
    rw [show q - ((0 : Nat) : Int) = q by omega] at hk
    obtain rfl : w = nI 0 := hw
    refine aw_iload dX6_valueOf_52 1 rfl ?_
    refine aw_if_ge 71 dX6_valueOf_54 (by decide) (fun c1 => ?_) (fun c1 => absurd (by decide) c1)
    exact hk
  | succ n ih =>
    intro q w hw h1 h2 hk
    rw [show q - ((n + 1 : Nat) : Int) = q - 1 - (n : Int) by omega] at hk
    have hw2 : w + 1 = -(nI n) := by
      rw [hw, ← nI_add, Int32.neg_add, show nI 1 = (1 : Int32) from rfl, Int32.sub_add_cancel]
    have g := ih (q - 1) (w + 1) hw2 (by omega) (by omega) hk
    have hneg : w < 0 := by rw [hw]; exact nI_m0 (by omega)
    refine aw_iload dX6_valueOf_52 1 rfl ?_
    refine aw_if_ge 71 dX6_valueOf_54 (by decide) (fun c1 => absurd hneg (Int32.not_lt.mpr c1)) (fun c1 => ?_)
    refine aw_dload dX6_valueOf_57 0 rfl ?_
    refine aw_ldc2d dX6_valueOf_59 kc_X6_91 ?_
    refine aw_ddiv dX6_valueOf_62 (n64e (ddiv_p 1 (nrmw _ h (by omega) (by omega)) (nrmw _ h (by omega) (by omega)) k2) ((nrmw _ h (by omega) (by omega)).n _)) ?_
    refine aw_topdE (ddiv_p 1 (nrmw _ h (by omega) (by omega)) (nrmw _ h (by omega) (by omega)) k2) ?_
    refine aw_dstore [(8, .double (nd false c (q - 1))), (7, .int w), (5, .long rs), (0, .long v), (2, .int x), (3, .int y), (4, .int z)] dX6_valueOf_63 (Nat.le_of_ble_eq_true rfl) rfl ?_
    obtain ⟨v2, ev2⟩ : ∃ y : Int32, y = w + 1 := ⟨_, rfl⟩
    refine aw_iinc v2 [(7, .int v2), (8, .double (nd false c (q - 1))), (5, .long rs), (0, .long v), (2, .int x), (3, .int y), (4, .int z)] dX6_valueOf_65 1 rfl (by rw [ev2]; rfl) (Nat.le_of_ble_eq_true rfl) rfl ?_
    refine aw_goto 52 dX6_valueOf_68 (by decide) ?_
    refine aw_sub [1, 0, 2, 3, 4, 5, 6] rfl ?_
    rw [show v2 = w + 1 from ev2]
    exact g
theorem sp_X6_valueOf {d : Nat} (hd : 0 ≤ d) {M : xM} (k : Nat) (hk : k = 6 ∨ k = 7) (s : Bool) (c : Nat) (r : Int) (h : okD k c r) : Sp (fX6_valueOf d) [.long (fb k (nd s c r)), .int (nI (rmK k)), .int (nI (2 ^ exK k - 1)), .int (nI (bsK k))] M (dt (some (.double (nd s c r))) M) := by
  refine Sp.of pn_X6 (Nat.le_of_ble_eq_true rfl) (fun h => Bool.noConfusion h) ?_
  have h0 := okD_nrm0 h
  have hR := rmK_le hk
  have hb := bsK_le hk
  obtain ⟨hE, hc⟩ := okE_of hk h
  have hs := fb_s hk s hE
  rw [← fb_nd s h] at hs
  have hr1 := h.2.2.1
  have hr2 := h.2.2.2.1
  have hfb := fb_nd s h
  obtain ⟨e1, e2, e3, e4⟩ := hE
  obtain ⟨q1, -, -, q4, W, q5, q6⟩ := fb_lt hk s e1 e2 e4
  have hex : rmK k + exK k ≤ 64 ∧ exK k = tpK k - rmK k ∧ exK k ≤ 11 := by rcases hk with rfl | rfl <;> decide
  have hp11 : 2 ^ exK k ≤ 2048 := (Nat.pow_le_pow_right (by decide) hex.2.2 : 2 ^ exK k ≤ 2 ^ 11)
  have hE2 : (r + 52 + bsK k).toNat < 2 ^ exK k := by
    rcases hk with rfl | rfl
    · show (r + 52 + (127 : Nat)).toNat < 256; omega
    · show (r + 52 + (1023 : Nat)).toNat < 2048; omega
  have m1 : fb k (nd s c r) &&& (((1 : Int64) <<< ((nI (rmK k)).toInt64 &&& 63)) - (1 : Int64)) = lN (c / 2 ^ (52 - rmK k) - 2 ^ rmK k) := by
    rw [hfb, show (1 : Int64) <<< ((nI (rmK k)).toInt64 &&& 63) = lN (2 ^ rmK k) by
      have := wb_shl 1 (k := rmK k) (by omega)
      rw [Nat.one_mul] at this
      exact this, show lN (2 ^ rmK k) - (1 : Int64) = lN (2 ^ rmK k - 1) from lN_sb (b := 1) (Nat.two_pow_pos _), wb_mask q1 (by omega), q4]
  have m2 : Int64.toInt32 ((fb k (nd s c r) >>> ((nI (rmK k)).toInt64 &&& 63)) &&& lN (2 ^ exK k - 1)) = nI (r + 52 + bsK k).toNat := by
    rw [hfb, sshr_mask q1 hex.1 (by omega), l2i_N]
    refine congrArg nI ?_
    rw [q5, Nat.mul_comm, Nat.mul_add_div (Nat.two_pow_pos _), Nat.div_eq_of_lt (show c / 2 ^ (52 - rmK k) - 2 ^ rmK k < 2 ^ rmK k by rw [Nat.pow_succ] at e2; omega), Nat.add_zero, hex.2.1, q6, ← hex.2.1, Nat.mod_eq_of_lt hE2]
  obtain ⟨x, y, x1, y1, y2, y3⟩ := one_of hR.1 e1 e2
  rw [← hc] at y3
  have tail : AW (fX6_valueOf d) 71 [(8, .double (nd false c r)), (7, .int (nI 0)), (5, .long (lN (c / 2 ^ (52 - rmK k) - 2 ^ rmK k))), (0, .long (fb k (nd s c r))), (2, .int (nI (rmK k))), (3, .int (nI (2 ^ exK k - 1))), (4, .int (nI (bsK k)))] [] M 0 0 (dt (some (.double (nd s c r))) M) := by
    cases s
    · refine aw_lload_n dX6_valueOf_71 3 rfl ?_
      refine aw_lconst (v := 0) dX6_valueOf_72 (by decide) ?_
      refine aw_lge 83 dX6_valueOf_73 dX6_valueOf_74 (by decide) (fun c1 => ?_) (fun c1 => absurd (hs.mpr rfl) c1)
      refine aw_dload dX6_valueOf_83 0 rfl ?_
      refine aw_dret dX6_valueOf_85 rfl (Nat.zero_le _) (Nat.zero_le _) ?_
      exact ⟨rfl, rfl⟩
    · refine aw_lload_n dX6_valueOf_71 3 rfl ?_
      refine aw_lconst (v := 0) dX6_valueOf_72 (by decide) ?_
      refine aw_lge 83 dX6_valueOf_73 dX6_valueOf_74 (by decide) (fun c1 => absurd (hs.mp c1) (by decide)) (fun c1 => ?_)
      refine aw_dload dX6_valueOf_77 0 rfl ?_
      refine aw_dneg dX6_valueOf_79 ?_
      refine aw_topdE (dneg_nd h0) ?_
      refine aw_goto 85 dX6_valueOf_80 (by decide) ?_
      refine aw_dret dX6_valueOf_85 rfl (Nat.zero_le _) (Nat.zero_le _) ?_
      exact ⟨rfl, rfl⟩
  have mid : ∀ w : Int32, w = nI (r + 52 + bsK k).toNat - nI (bsK k) → AW (fX6_valueOf d) 33 [(8, .double (nd false c (-52))), (7, .int w), (5, .long (lN (c / 2 ^ (52 - rmK k) - 2 ^ rmK k))), (0, .long (fb k (nd s c r))), (2, .int (nI (rmK k))), (3, .int (nI (2 ^ exK k - 1))), (4, .int (nI (bsK k)))] [] M 0 0 (dt (some (.double (nd s c r))) M) := by
    intro w hw
    by_cases g : -52 ≤ r
    · have e : w = nI (r + 52).toNat := by
        rw [hw, nI_sb (by omega)]
        refine congrArg nI ?_
        omega
      subst e
      refine lp_val1 _ _ _ _ _ c h0 (r + 52).toNat (-52) (by omega) (by omega) ?_
      refine lp_val2 _ _ _ _ _ c h0 0 (-52 + ((r + 52).toNat : Int)) (nI 0) rfl (by omega) (by omega) ?_
      rw [show -52 + ((r + 52).toNat : Int) - ((0 : Nat) : Int) = r by omega]
      exact tail
    · have e : w = -(nI (-52 - r).toNat) := by
        have e2 : nI (bsK k) = nI (r + 52 + bsK k).toNat + nI (-52 - r).toNat := by rw [nI_add]; refine congrArg nI ?_; omega
        rw [hw, e2]
        simp only [Int32.sub_eq_add_neg, Int32.neg_add]
        rw [← Int32.add_assoc, Int32.add_right_neg, Int32.zero_add]
      have hneg : w ≤ 0 := by
        rw [e, show (-52 - r).toNat = (-52 - r).toNat - 1 + 1 by omega]
        exact Int32.le_of_lt (nI_m0 (by omega))
      have ht := lp_val2 (d := d) (M := M) (post := dt (some (.double (nd s c r))) M) (fb k (nd s c r)) (lN (c / 2 ^ (52 - rmK k) - 2 ^ rmK k)) (nI (rmK k)) (nI (2 ^ exK k - 1)) (nI (bsK k)) c h0 (-52 - r).toNat (-52) w e (by omega) (by omega) (by
        rw [show -52 - ((-52 - r).toNat : Int) = r by omega]
        exact tail)
      refine aw_iload dX6_valueOf_33 1 rfl ?_
      refine aw_if_le 52 dX6_valueOf_35 (by decide) (fun c1 => ?_) (fun c1 => absurd hneg c1)
      exact ht
  refine aw_lload_n dX6_valueOf_0 0 rfl ?_
  refine aw_lconst (v := 1) dX6_valueOf_1 (by decide) ?_
  refine aw_iload_n dX6_valueOf_2 1 rfl ?_
  refine aw_lshl dX6_valueOf_3 ?_
  refine aw_lconst (v := 1) dX6_valueOf_4 (by decide) ?_
  refine aw_lsub dX6_valueOf_5 ?_
  refine aw_land dX6_valueOf_6 ?_
  refine aw_toplE m1 ?_
  refine aw_lstore [(5, .long (lN (c / 2 ^ (52 - rmK k) - 2 ^ rmK k))), (0, .long (fb k (nd s c r))), (2, .int (nI (rmK k))), (3, .int (nI (2 ^ exK k - 1))), (4, .int (nI (bsK k)))] dX6_valueOf_7 (Nat.le_of_ble_eq_true rfl) rfl ?_
  refine aw_lload_n dX6_valueOf_9 1 rfl ?_
  refine aw_iload_n dX6_valueOf_10 2 rfl ?_
  refine aw_lshr dX6_valueOf_11 ?_
  refine aw_iload_n dX6_valueOf_12 3 rfl ?_
  refine aw_i2lN (2 ^ exK k - 1) dX6_valueOf_13 rfl (by omega) ?_
  refine aw_land dX6_valueOf_14 ?_
  refine aw_l2i dX6_valueOf_15 ?_
  refine aw_topE m2 ?_
  refine aw_iload dX6_valueOf_16 4 rfl ?_
  refine aw_isub dX6_valueOf_18 ?_
  refine aw_istore [(7, .int ((nI (r + 52 + bsK k).toNat) - (nI (bsK k)))), (5, .long (lN (c / 2 ^ (52 - rmK k) - 2 ^ rmK k))), (0, .long (fb k (nd s c r))), (2, .int (nI (rmK k))), (3, .int (nI (2 ^ exK k - 1))), (4, .int (nI (bsK k)))] dX6_valueOf_19 (Nat.le_of_ble_eq_true rfl) rfl ?_
  refine aw_dconst1 dX6_valueOf_21 ?_
  refine aw_lload dX6_valueOf_22 1 rfl ?_
  refine aw_l2d dX6_valueOf_24 ?_
  refine aw_topdE x1 ?_
  refine aw_lconst (v := 1) dX6_valueOf_25 (by decide) ?_
  refine aw_iload_n dX6_valueOf_26 3 rfl ?_
  refine aw_lshl dX6_valueOf_27 ?_
  refine aw_l2d dX6_valueOf_28 ?_
  refine aw_topdE (l2d_p hR.1) ?_
  refine aw_ddiv dX6_valueOf_29 (n64e y1 y2) ?_
  refine aw_topdE y1 ?_
  refine aw_dadd dX6_valueOf_30 (n64e y3 ((nrmw _ h0 (by decide) (by decide)).n _)) ?_
  refine aw_topdE y3 ?_
  refine aw_dstore [(8, .double (nd false c (-52))), (7, .int ((nI (r + 52 + bsK k).toNat) - (nI (bsK k)))), (5, .long (lN (c / 2 ^ (52 - rmK k) - 2 ^ rmK k))), (0, .long (fb k (nd s c r))), (2, .int (nI (rmK k))), (3, .int (nI (2 ^ exK k - 1))), (4, .int (nI (bsK k)))] dX6_valueOf_31 (Nat.le_of_ble_eq_true rfl) rfl ?_
  exact mid _ rfl
theorem sp_X6_value {d : Nat} (hd : 1 ≤ d) {M : xM} (k : Nat) (hk : k = 6 ∨ k = 7) (u : UInt64) (hu : isD k u) : Sp (fX6_value d) [.int (nI k), .long (fb k u)] M (dt (some (.double u)) M) := by
  refine Sp.of pn_X6 (Nat.le_of_ble_eq_true rfl) (fun h => Bool.noConfusion h) ?_
  rcases hu with rfl | ⟨s, c, r, h, rfl⟩
  · rw [fb_0]
    refine aw_lload_n dX6_value_0 1 rfl ?_
    refine aw_lconst (v := 0) dX6_value_1 (by decide) ?_
    refine aw_lne 8 dX6_value_2 dX6_value_3 (by decide) (fun c1 => absurd rfl c1) (fun c1 => ?_)
    refine aw_dconst0 dX6_value_6 ?_
    refine aw_dret dX6_value_7 rfl (Nat.zero_le _) (Nat.zero_le _) ?_
    exact ⟨rfl, rfl⟩
  · have hne : ¬ fb k (nd s c r) = 0 := by
      obtain ⟨hE, -⟩ := okE_of hk h
      have := fb_pos s hE
      rw [fb_nd s h]
      exact lN_nz this (fb_lt hk s hE.1 hE.2.1 hE.2.2.2).1
    rcases hk with rfl | rfl
    · refine aw_lload_n dX6_value_0 1 rfl ?_
      refine aw_lconst (v := 0) dX6_value_1 (by decide) ?_
      refine aw_lne 8 dX6_value_2 dX6_value_3 (by decide) (fun c1 => ?_) (fun c1 => absurd c1 hne)
      refine aw_iload_n dX6_value_8 0 rfl ?_
      refine aw_bipush (v := 6) dX6_value_9 (by decide) ?_
      refine aw_icmp_neN 6 6 28 dX6_value_11 (by decide) rfl rfl (by omega) (by omega) (fun c2 => absurd rfl c2) (fun c2 => ?_)
      refine aw_lload_n dX6_value_14 1 rfl ?_
      refine aw_bipush (v := 23) dX6_value_15 (by decide) ?_
      refine aw_sipush (v := 255) dX6_value_17 (by decide) ?_
      refine aw_bipush (v := 127) dX6_value_20 (by decide) ?_
      refine aw_callSd [.long (fb 6 (nd s c r)), .int 23, .int 255, .int 127] [] (sp_X6_valueOf (d := d - 1) (by omega) 6 (by decide) s c r h) dX6_value_22 ml_X6_101 sm_X6_valueOf rfl (dl1 (d := d) (by omega)) rfl rfl (Nat.le_of_ble_eq_true rfl) rfl rfl (Nat.zero_le _) (Nat.zero_le _) ?_
      refine aw_goto 40 dX6_value_25 (by decide) ?_
      refine aw_dret dX6_value_40 rfl (Nat.zero_le _) (Nat.zero_le _) ?_
      exact ⟨rfl, rfl⟩
    · refine aw_lload_n dX6_value_0 1 rfl ?_
      refine aw_lconst (v := 0) dX6_value_1 (by decide) ?_
      refine aw_lne 8 dX6_value_2 dX6_value_3 (by decide) (fun c1 => ?_) (fun c1 => absurd c1 hne)
      refine aw_iload_n dX6_value_8 0 rfl ?_
      refine aw_bipush (v := 6) dX6_value_9 (by decide) ?_
      refine aw_icmp_neN 7 6 28 dX6_value_11 (by decide) rfl rfl (by omega) (by omega) (fun c2 => ?_) (fun c2 => absurd c2 (by decide))
      refine aw_lload_n dX6_value_28 1 rfl ?_
      refine aw_bipush (v := 52) dX6_value_29 (by decide) ?_
      refine aw_sipush (v := 2047) dX6_value_31 (by decide) ?_
      refine aw_sipush (v := 1023) dX6_value_34 (by decide) ?_
      refine aw_callSd [.long (fb 7 (nd s c r)), .int 52, .int 2047, .int 1023] [] (sp_X6_valueOf (d := d - 1) (by omega) 7 (by decide) s c r h) dX6_value_37 ml_X6_101 sm_X6_valueOf rfl (dl1 (d := d) (by omega)) rfl rfl (Nat.le_of_ble_eq_true rfl) rfl rfl (Nat.zero_le _) (Nat.zero_le _) ?_
      refine aw_dret dX6_value_40 rfl (Nat.zero_le _) (Nat.zero_le _) ?_
      exact ⟨rfl, rfl⟩
