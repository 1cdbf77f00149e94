-- BITSOF, VALUEOF: the reference
theorem l2d_p {R : Nat} (hR : R ≤ 52) : FP.l2d ((1 : Int64) <<< ((nI R).toInt64 &&& 63)) = nd false (2 ^ 52) ((R : Int) - 52) := by
  have e1 : (1 : Int64) <<< ((nI R).toInt64 &&& 63) = lN (2 ^ R) := by
    have := wb_shl 1 (k := R) (by omega)
    rw [Nat.one_mul] at this
    exact this
  have h := (l2d_ex (n := 2 ^ R) false (Nat.two_pow_pos R) (Nat.pow_lt_pow_right (by decide) (by omega))).1
  rw [Nat.log2_two_pow, ← Nat.pow_add, show R + (52 - R) = 52 by omega] at h
  rw [e1]
  exact h
theorem sub1_0 : FP.dsub (nd false (2 ^ 52) (-52)) FP.dconst1 = FP.dconst0 := by decide +kernel
theorem m0_p {R : Nat} (hR : R ≤ 52) : FP.dmul FP.dconst0 (nd false (2 ^ 52) ((R : Int) - 52)) = FP.dconst0 := (by decide +kernel : ∀ R : Nat, R ≤ 52 → FP.dmul FP.dconst0 (nd false (2 ^ 52) ((R : Int) - 52)) = FP.dconst0) R hR
theorem rn_0 {n : Nat} (h0 : 0 < n) (hn : n < 2 ^ 53) (q : Int) (h1 : -200 ≤ q) (h2 : q ≤ 200) (s : Bool) : FP.Core.round FP.Core.b64 (.fin s n q) = .fin s (n * 2 ^ (52 - n.log2)) (q - ((52 - n.log2 : Nat) : Int)) ∧ nrm (n * 2 ^ (52 - n.log2)) (q - ((52 - n.log2 : Nat) : Int)) := by
  have hm := (l2d_ex (n := n) false h0 hn).2
  have hL : n.log2 < 53 := (Nat.log2_lt (by omega : n ≠ 0)).mpr hn
  have hm2 : nrm (n * 2 ^ (52 - n.log2)) (q - ((52 - n.log2 : Nat) : Int)) := nrmw _ hm (by omega) (by omega)
  refine ⟨rnd_ex hm2 ?_, hm2⟩
  rw [show (q - (q - ((52 - n.log2 : Nat) : Int))).toNat = 52 - n.log2 by omega, show (q - ((52 - n.log2 : Nat) : Int) - q).toNat = 0 by omega, Nat.pow_zero, Nat.mul_one]
theorem sub1_n {c : Nat} (h1 : 2 ^ 52 < c) (h2 : c < 2 ^ 53) : FP.dsub (nd false c (-52)) FP.dconst1 = nd false ((c - 2 ^ 52) * 2 ^ (52 - (c - 2 ^ 52).log2)) (-52 - ((52 - (c - 2 ^ 52).log2 : Nat) : Int)) ∧ nrm ((c - 2 ^ 52) * 2 ^ (52 - (c - 2 ^ 52).log2)) (-52 - ((52 - (c - 2 ^ 52).log2 : Nat) : Int)) := by
  obtain ⟨g1, g2⟩ := rn_0 (n := c - 2 ^ 52) (by omega) (by omega) (-52) (by decide) (by decide) false
  refine ⟨?_, g2⟩
  apply nd_of
  have hc : nrm c (-52) := ⟨by omega, h2, by decide, by decide⟩
  show FP.Core.val64 (FP.Core.dsub _ _) = _
  rw [FP.Core.val64_dsub, hc.val, show FP.Core.val64 FP.dconst1 = .fin false (2 ^ 52) (-52) by decide +kernel, ← g1]
  have e : FP.Core.sumUnits false c (-52) true (2 ^ 52) (-52) (min (-52) (-52)) = ((c - 2 ^ 52 : Nat) : Int) := by
    show ((c * 2 ^ 0 : Nat) : Int) + -((2 ^ 52 * 2 ^ 0 : Nat) : Int) = _
    omega
  show FP.Core.round FP.Core.b64 (.fin (FP.Core.sumSign false true (FP.Core.sumUnits false c (-52) true (2 ^ 52) (-52) (min (-52) (-52)))) (FP.Core.sumUnits false c (-52) true (2 ^ 52) (-52) (min (-52) (-52))).natAbs (min (-52) (-52))) = _
  rw [e, show FP.Core.sumSign false true ((c - 2 ^ 52 : Nat) : Int) = false by
    unfold FP.Core.sumSign
    rw [if_neg (by omega), decide_eq_false (by omega)], Int.natAbs_natCast]
  rfl
theorem d2l_vp {x : UInt64} {c n : Nat} {r : Int} (hx : FP.Core.val64 x = .fin false c r) (hn : c * 2 ^ r.toNat / 2 ^ (-r).toNat = n) (hb : n < 2 ^ 63) : FP.d2l x = lN n := d2l_v hx hn hb
/-- the fraction's digits -/
theorem rest_of {c R : Nat} (h1 : 2 ^ 52 ≤ c) (h2 : c < 2 ^ 53) (hR : R ≤ 52) : ∃ x y : UInt64, FP.dsub (nd false c (-52)) FP.dconst1 = x ∧ vf_n64 x ∧ FP.dmul x (nd false (2 ^ 52) ((R : Int) - 52)) = y ∧ vf_n64 y ∧ FP.d2l y = lN ((c - 2 ^ 52) / 2 ^ (52 - R)) := by
  by_cases g : c = 2 ^ 52
  · refine ⟨FP.dconst0, FP.dconst0, ?_, n64_0, m0_p hR, n64_0, ?_⟩
    · rw [g]; exact sub1_0
    · rw [d2l_0, g, Nat.sub_self, Nat.zero_div]; rfl
  · obtain ⟨g1, g2⟩ := sub1_n (show 2 ^ 52 < c by omega) h2
    have hL : (c - 2 ^ 52).log2 < 53 := (Nat.log2_lt (by omega)).mpr (show c - 2 ^ 52 < 2 ^ 53 by omega)
    have hL0 : (c - 2 ^ 52).log2 < 52 := (Nat.log2_lt (by omega)).mpr (show c - 2 ^ 52 < 2 ^ 52 by omega)
    have hn : nrm ((c - 2 ^ 52) * 2 ^ (52 - (c - 2 ^ 52).log2)) (-52 - ((52 - (c - 2 ^ 52).log2 : Nat) : Int) + R) := nrmw _ g2 (by omega) (by omega)
    have hp : nrm (2 ^ 52) ((R : Int) - 52) := ⟨by decide, by decide, by omega, by omega⟩
    refine ⟨_, _, g1, g2.n _, dmul_p (R : Int) g2 hn (hp.val false), hn.n _, ?_⟩
    refine d2l_vp (hn.val false) ?_ (Nat.lt_of_le_of_lt (Nat.div_le_self _ _) (by omega))
    generalize (c - 2 ^ 52).log2 = L at hL hL0 ⊢
    rw [show (-52 - ((52 - L : Nat) : Int) + R).toNat = 0 by omega, show (-(-52 - ((52 - L : Nat) : Int) + R)).toNat = (52 - R) + (52 - L) by omega, Nat.pow_zero, Nat.mul_one, Nat.pow_add, Nat.mul_div_mul_right _ _ (Nat.two_pow_pos _)]
theorem c12 {c : Nat} {q : Int} {op : CmpOp} (h : nrm c q) : (0 ≤ Op.cmpValue (FP.dcmp (nd false c q) 4611686018427387904) op ↔ -51 ≤ q) ∧ (0 ≤ Op.cmpValue (FP.dcmp (nd false c q) FP.dconst1) op ↔ -52 ≤ q) := by
  refine ⟨?_, ?_⟩
  · rw [cge_p h rfl k2]
    constructor
    · intro z; have := z.2; omega
    · intro z; exact ⟨rfl, by omega⟩
  · rw [cge_p h rfl k1]
    constructor
    · intro z; have := z.2; omega
    · intro z; exact ⟨rfl, by omega⟩
theorem lp_bits1 {d : Nat} {M : xM} (u : UInt64) (R B c : Nat) {r : Int} (h : nrm c r) {post : Option Value → xM → Prop} : ∀ (n i : Nat) (q : Int), q = -52 + n → q ≤ 200 → AW (fX6_bitsOf d) 48 [(6, .int (nI (i + n))), (4, .double (nd false c (-52))), (0, .double u), (2, .int (nI R)), (3, .int (nI B))] [] M 0 0 post → AW (fX6_bitsOf d) 25 [(6, .int (nI i)), (4, .double (nd false c q)), (0, .double u), (2, .int (nI R)), (3, .int (nI B))] [] M 0 0 post := by
  intro n
  induction n with
  | zero =>
    intro i q h1 h2 hk
    obtain rfl : q = -52 := by omega
    have hq : nrm c (-52) := nrmw _ h (by omega) (by omega)
    refine aw_dload dX6_bitsOf_25 1 rfl ?_
    refine aw_ldc2d dX6_bitsOf_27 kc_X6_91 ?_
    refine aw_dcmp dX6_bitsOf_30 ?_
    refine aw_if_lt 48 dX6_bitsOf_31 (by decide) (fun c1 => ?_) (fun c1 => absurd ((c12 hq).1.mp (Int32.not_lt.mp c1)) (by decide))
    exact hk
  | succ n ih =>
    intro i q h1 h2 hk
    have hq : nrm c q := nrmw _ h (by omega) (by omega)
    rw [show i + (n + 1) = i + 1 + n by omega] at hk
    have g := ih (i + 1) (q - 1) (by omega) (by omega) hk
    refine aw_dload dX6_bitsOf_25 1 rfl ?_
    refine aw_ldc2d dX6_bitsOf_27 kc_X6_91 ?_
    refine aw_dcmp dX6_bitsOf_30 ?_
    refine aw_if_lt 48 dX6_bitsOf_31 (by decide) (fun c1 => absurd ((c12 hq).1.mpr (by omega)) (Int32.not_le.mpr c1)) (fun c1 => ?_)
    refine aw_dload dX6_bitsOf_34 1 rfl ?_
    refine aw_ldc2d dX6_bitsOf_36 kc_X6_91 ?_
    refine aw_ddiv dX6_bitsOf_39 (n64e (ddiv_p 1 hq (nrmw _ h (by omega) (by omega)) k2) ((nrmw _ h (by omega) (by omega)).n _)) ?_
    refine aw_topdE (ddiv_p 1 hq (nrmw _ h (by omega) (by omega)) k2) ?_
    refine aw_dstore [(4, .double (nd false c (q - 1))), (6, .int (nI i)), (0, .double u), (2, .int (nI R)), (3, .int (nI B))] dX6_bitsOf_40 (Nat.le_of_ble_eq_true rfl) rfl ?_
    refine aw_iincN i 1 [(6, .int (nI (i + 1))), (4, .double (nd false c (q - 1))), (0, .double u), (2, .int (nI R)), (3, .int (nI B))] dX6_bitsOf_42 1 rfl rfl rfl (Nat.le_of_ble_eq_true rfl) rfl ?_
    refine aw_goto 25 dX6_bitsOf_45 (by decide) ?_
    exact g
theorem lp_bits2 {d : Nat} {M : xM} (u : UInt64) (R B c : Nat) {r : Int} (h : nrm c r) {post : Option Value → xM → Prop} : ∀ (n : Nat) (w : Int32) (q : Int), q = -52 - n → -200 ≤ q → AW (fX6_bitsOf d) 69 [(6, .int (w - nI n)), (4, .double (nd false c (-52))), (0, .double u), (2, .int (nI R)), (3, .int (nI B))] [] M 0 0 post → AW (fX6_bitsOf d) 48 [(6, .int w), (4, .double (nd false c q)), (0, .double u), (2, .int (nI R)), (3, .int (nI B))] [] M 0 0 post := by
  intro n
  induction n with
  | zero =>
    intro w q h1 h2 hk
    obtain rfl : q = -52 := by omega
    have hq : nrm c (-52) := nrmw _ h (by omega) (by omega)
    rw [show w - nI 0 = w from Int32.sub_zero w] at hk
    refine aw_dload dX6_bitsOf_48 1 rfl ?_
    refine aw_dconst1 dX6_bitsOf_50 ?_
    refine aw_dcmp dX6_bitsOf_51 ?_
    refine aw_if_ge 69 dX6_bitsOf_52 (by decide) (fun c1 => ?_) (fun c1 => absurd ((c12 hq).2.mpr (by decide)) c1)
    exact hk
  | succ n ih =>
    intro w q h1 h2 hk
    have hq : nrm c q := nrmw _ h (by omega) (by omega)
    have e : w - nI (n + 1) = w + (-1) - nI n := by
      rw [← nI_add]
      simp only [Int32.sub_eq_add_neg, Int32.neg_add]
      show w + (-(nI n) + -1) = w + -1 + -(nI n)
      ac_rfl
    rw [e] at hk
    have g := ih (w + (-1)) (q + 1) (by omega) (by omega) hk
    refine aw_dload dX6_bitsOf_48 1 rfl ?_
    refine aw_dconst1 dX6_bitsOf_50 ?_
    refine aw_dcmp dX6_bitsOf_51 ?_
    refine aw_if_ge 69 dX6_bitsOf_52 (by decide) (fun c1 => absurd ((c12 hq).2.mp c1) (by omega)) (fun c1 => ?_)
    refine aw_dload dX6_bitsOf_55 1 rfl ?_
    refine aw_ldc2d dX6_bitsOf_57 kc_X6_91 ?_
    refine aw_dmul dX6_bitsOf_60 (n64e (dmul_p 1 hq (nrmw _ h (by omega) (by omega)) k2) ((nrmw _ h (by omega) (by omega)).n _)) ?_
    refine aw_topdE (dmul_p 1 hq (nrmw _ h (by omega) (by omega)) k2) ?_
    refine aw_dstore [(4, .double (nd false c (q + 1))), (6, .int w), (0, .double u), (2, .int (nI R)), (3, .int (nI B))] dX6_bitsOf_61 (Nat.le_of_ble_eq_true rfl) rfl ?_
    obtain ⟨v2, ev2⟩ : ∃ y : Int32, y = w + (-1) := ⟨_, rfl⟩
    refine aw_iinc v2 [(6, .int v2), (4, .double (nd false c (q + 1))), (0, .double u), (2, .int (nI R)), (3, .int (nI B))] dX6_bitsOf_63 1 rfl (by rw [ev2]; rfl) (Nat.le_of_ble_eq_true rfl) rfl ?_
    refine aw_goto 48 dX6_bitsOf_66 (by decide) ?_
    rw [show v2 = w + (-1) from ev2]
    exact g
theorem sp_X6_bitsOf {d : Nat} (hd : 0 ≤ d) {M : xM} (k : Nat) (hk : k = 6 ∨ k = 7) (s : Bool) (c : Nat) (r : Int) (h : okD k c r) : Sp (fX6_bitsOf d) [.double (nd s c r), .int (nI (rmK k)), .int (nI (bsK k))] M (dt (some (.long (lN (fbN k false (c / 2 ^ (52 - rmK k)) (r + 52 + bsK k).toNat)))) M) := by
  refine Sp.of pn_X6 (Nat.le_of_ble_eq_true rfl) (fun h => Bool.noConfusion h) ?_
  have h0 := okD_nrm0 h
  have hR := rmK_le hk
  have hb := bsK_le hk
  obtain ⟨hE, hc⟩ := okE_of hk h
  have hr1 := h.2.2.1
  have hr2 := h.2.2.2.1
  have hcp : 0 < c := by have := h.1; omega
  have tail : ∀ w : Int32, w + nI (bsK k) = nI (r + 52 + bsK k).toNat → AW (fX6_bitsOf d) 69 [(6, .int w), (4, .double (nd false c (-52))), (0, .double (nd s c r)), (2, .int (nI (rmK k))), (3, .int (nI (bsK k)))] [] M 0 0 (dt (some (.long (lN (fbN k false (c / 2 ^ (52 - rmK k)) (r + 52 + bsK k).toNat)))) M) := by
    intro w hw
    obtain ⟨x, y, x1, x2, y1, y2, y3⟩ := rest_of h.1 h.2.1 hR.1
    refine aw_dload dX6_bitsOf_69 1 rfl ?_
    refine aw_dconst1 dX6_bitsOf_71 ?_
    refine aw_dsub dX6_bitsOf_72 (n64e x1 x2) ?_
    refine aw_topdE x1 ?_
    refine aw_lconst (v := 1) dX6_bitsOf_73 (by decide) ?_
    refine aw_iload_n dX6_bitsOf_74 3 rfl ?_
    refine aw_lshl dX6_bitsOf_75 ?_
    refine aw_l2d dX6_bitsOf_76 ?_
    refine aw_topdE (l2d_p hR.1) ?_
    refine aw_dmul dX6_bitsOf_77 (n64e y1 y2) ?_
    refine aw_topdE y1 ?_
    refine aw_d2l dX6_bitsOf_78 ?_
    refine aw_toplE y3 ?_
    refine aw_lstore [(7, .long (lN ((c - 2 ^ 52) / 2 ^ (52 - rmK k)))), (6, .int w), (4, .double (nd false c (-52))), (0, .double (nd s c r)), (2, .int (nI (rmK k))), (3, .int (nI (bsK k)))] dX6_bitsOf_79 (Nat.le_of_ble_eq_true rfl) rfl ?_
    refine aw_iload dX6_bitsOf_81 1 rfl ?_
    refine aw_iload_n dX6_bitsOf_83 5 rfl ?_
    refine aw_iadd dX6_bitsOf_84 ?_
    refine aw_i2l dX6_bitsOf_85 ?_
    refine aw_iload_n dX6_bitsOf_86 4 rfl ?_
    refine aw_lshl dX6_bitsOf_87 ?_
    refine aw_lload dX6_bitsOf_88 0 rfl ?_
    refine aw_ladd dX6_bitsOf_90 ?_
    refine aw_lret dX6_bitsOf_91 rfl (Nat.zero_le _) (Nat.zero_le _) ?_
    refine ⟨congrArg (fun z => some (Value.long z)) ?_, rfl⟩
    rw [hw, nIL (by omega), wb_shl _ (by omega), lN_ad]
    refine congrArg lN ?_
    unfold fbN
    rw [show sgK k false = 0 from rfl, Nat.zero_mul, Nat.zero_add]
    refine congrArg (fun z => (r + 52 + bsK k).toNat * 2 ^ rmK k + z) ?_
    have e2 : 2 ^ 52 = 2 ^ rmK k * 2 ^ (52 - rmK k) := by rw [← Nat.pow_add, show rmK k + (52 - rmK k) = 52 by omega]
    conv => lhs; rw [hc, e2, ← Nat.sub_mul]
    rw [Nat.mul_div_cancel _ (Nat.two_pow_pos _)]
  have mid : AW (fX6_bitsOf d) 25 [(6, .int (nI 0)), (4, .double (nd false c r)), (0, .double (nd s c r)), (2, .int (nI (rmK k))), (3, .int (nI (bsK k)))] [] M 0 0 (dt (some (.long (lN (fbN k false (c / 2 ^ (52 - rmK k)) (r + 52 + bsK k).toNat)))) M) := by
    by_cases g : -52 ≤ r
    · refine lp_bits1 (d := d) (nd s c r) (rmK k) (bsK k) c h0 (r + 52).toNat 0 r (by omega) (by omega) ?_
      refine lp_bits2 (nd s c r) (rmK k) (bsK k) c h0 0 _ (-52) (by omega) (by omega) ?_
      refine tail _ ?_
      rw [show nI (0 + (r + 52).toNat) - nI 0 = nI (0 + (r + 52).toNat) from Int32.sub_zero _, nI_add]
      congr 1
      omega
    · have ht := tail (nI 0 - nI (-52 - r).toNat) (by
        have e : nI (bsK k) = nI (r + 52 + bsK k).toNat + nI (-52 - r).toNat := by rw [nI_add]; congr 1; omega
        rw [e, show nI 0 = (0 : Int32) from rfl, Int32.zero_sub, Int32.add_comm, Int32.add_assoc, Int32.add_right_neg, Int32.add_zero])
      have ht := lp_bits2 (nd s c r) (rmK k) (bsK k) c h0 (-52 - r).toNat (nI 0) r (by omega) (by omega) ht
      refine aw_dload dX6_bitsOf_25 1 rfl ?_
      refine aw_ldc2d dX6_bitsOf_27 kc_X6_91 ?_
      refine aw_dcmp dX6_bitsOf_30 ?_
      refine aw_if_lt 48 dX6_bitsOf_31 (by decide) (fun c1 => ?_) (fun c1 => absurd ((c12 h0).1.mp (Int32.not_lt.mp c1)) (by omega))
      exact ht
  cases s
  · refine aw_dload_n dX6_bitsOf_0 0 rfl ?_
    refine aw_dconst0 dX6_bitsOf_1 ?_
    refine aw_dcmp dX6_bitsOf_2 ?_
    refine aw_if_ne 8 dX6_bitsOf_3 (by decide) (fun c1 => ?_) (fun c1 => absurd c1 (c0_v hcp (h0.val false)).2)
    refine aw_dload_n dX6_bitsOf_8 0 rfl ?_
    refine aw_dconst0 dX6_bitsOf_9 ?_
    refine aw_dcmp dX6_bitsOf_10 ?_
    refine aw_if_ge 19 dX6_bitsOf_11 (by decide) (fun c2 => ?_) (fun c2 => absurd ((c0_v hcp (h0.val false)).1.mpr rfl) c2)
    refine aw_dload_n dX6_bitsOf_19 0 rfl ?_
    refine aw_dstore [(4, .double (nd false c r)), (0, .double (nd false c r)), (2, .int (nI (rmK k))), (3, .int (nI (bsK k)))] dX6_bitsOf_20 (Nat.le_of_ble_eq_true rfl) rfl ?_
    refine aw_iconst (v := 0) dX6_bitsOf_22 (by decide) ?_
    refine aw_istore [(6, .int 0), (4, .double (nd false c r)), (0, .double (nd false c r)), (2, .int (nI (rmK k))), (3, .int (nI (bsK k)))] dX6_bitsOf_23 (Nat.le_of_ble_eq_true rfl) rfl ?_
    exact mid
  · refine aw_dload_n dX6_bitsOf_0 0 rfl ?_
    refine aw_dconst0 dX6_bitsOf_1 ?_
    refine aw_dcmp dX6_bitsOf_2 ?_
    refine aw_if_ne 8 dX6_bitsOf_3 (by decide) (fun c1 => ?_) (fun c1 => absurd c1 (c0_v hcp (h0.val true)).2)
    refine aw_dload_n dX6_bitsOf_8 0 rfl ?_
    refine aw_dconst0 dX6_bitsOf_9 ?_
    refine aw_dcmp dX6_bitsOf_10 ?_
    refine aw_if_ge 19 dX6_bitsOf_11 (by decide) (fun c2 => absurd ((c0_v hcp (h0.val true)).1.mp c2) (by decide)) (fun c2 => ?_)
    refine aw_dload_n dX6_bitsOf_14 0 rfl ?_
    refine aw_dneg dX6_bitsOf_15 ?_
    refine aw_topdE (dneg_nd h0) ?_
    refine aw_goto 20 dX6_bitsOf_16 (by decide) ?_
    refine aw_dstore [(4, .double (nd false c r)), (0, .double (nd true c r)), (2, .int (nI (rmK k))), (3, .int (nI (bsK k)))] dX6_bitsOf_20 (Nat.le_of_ble_eq_true rfl) rfl ?_
    refine aw_iconst (v := 0) dX6_bitsOf_22 (by decide) ?_
    refine aw_istore [(6, .int 0), (4, .double (nd false c r)), (0, .double (nd true c r)), (2, .int (nI (rmK k))), (3, .int (nI (bsK k)))] dX6_bitsOf_23 (Nat.le_of_ble_eq_true rfl) rfl ?_
    exact mid
theorem sp_X6_bitsOf0 {d : Nat} {M : xM} (x y : Int32) : Sp (fX6_bitsOf d) [.double FP.dconst0, .int x, .int y] M (dt (some (.long 0)) M) := by
  refine Sp.of pn_X6 (Nat.le_of_ble_eq_true rfl) (fun h => Bool.noConfusion h) ?_
  refine aw_dload_n dX6_bitsOf_0 0 rfl ?_
  refine aw_dconst0 dX6_bitsOf_1 ?_
  refine aw_dcmp dX6_bitsOf_2 ?_
  refine aw_if_ne 8 dX6_bitsOf_3 (by decide) (fun c1 => absurd (by decide +kernel) c1) (fun c1 => ?_)
  refine aw_lconst (v := 0) dX6_bitsOf_6 (by decide) ?_
  refine aw_lret dX6_bitsOf_7 rfl (Nat.zero_le _) (Nat.zero_le _) ?_
  exact ⟨rfl, rfl⟩
theorem lN_wrap {a b : Nat} (h : b ≤ 2 ^ 64) : lN a - lN b = lN (a + (2 ^ 64 - b)) := by
  have e : lN a = lN (a + (2 ^ 64 - b)) + lN b := by
    rw [lN_ad, show a + (2 ^ 64 - b) + b = a + 2 ^ 64 by omega, wb_mod a, wb_mod (a + 2 ^ 64)]
    refine congrArg lN ?_
    omega
  rw [e, Int64.add_sub_cancel]
theorem sp_X6_floatBits {d : Nat} (hd : 1 ≤ d) {M : xM} (u : UInt64) (hu : isD 6 u) : Sp (fX6_floatBits d) [.double u] M (dt (some (.long (fb 6 u))) M) := by
  refine Sp.of pn_X6 (Nat.le_of_ble_eq_true rfl) (fun h => Bool.noConfusion h) ?_
  rcases hu with rfl | ⟨s, c, r, h, rfl⟩
  · rw [fb_0]
    refine aw_dload_n dX6_floatBits_0 0 rfl ?_
    refine aw_bipush (v := 23) dX6_floatBits_1 (by decide) ?_
    refine aw_bipush (v := 127) dX6_floatBits_3 (by decide) ?_
    refine aw_callSl [.double FP.dconst0, .int 23, .int 127] [] (sp_X6_bitsOf0 _ _) dX6_floatBits_5 ml_X6_93 sm_X6_bitsOf rfl (dl1 (d := d) (by omega)) rfl rfl (Nat.le_of_ble_eq_true rfl) rfl rfl (Nat.zero_le _) (Nat.zero_le _) ?_
    refine aw_lstore_n [(2, .long 0), (0, .double FP.dconst0)] dX6_floatBits_8 (Nat.le_of_ble_eq_true rfl) rfl ?_
    refine aw_dload_n dX6_floatBits_9 1 rfl ?_
    refine aw_dconst0 dX6_floatBits_10 ?_
    refine aw_dcmp dX6_floatBits_11 ?_
    refine aw_if_ge 23 dX6_floatBits_12 (by decide) (fun c1 => ?_) (fun c1 => absurd (by decide +kernel) c1)
    refine aw_lload_n dX6_floatBits_23 0 rfl ?_
    refine aw_lret dX6_floatBits_24 rfl (Nat.zero_le _) (Nat.zero_le _) ?_
    exact ⟨rfl, rfl⟩
  · have h0 := okD_nrm0 h
    have hcp : 0 < c := by have := h.1; omega
    rw [fb_nd s h]
    obtain ⟨⟨e1, e2, e3, e4⟩, -⟩ := okE_of (k := 6) (by decide) h
    cases s
    · refine aw_dload_n dX6_floatBits_0 0 rfl ?_
      refine aw_bipush (v := 23) dX6_floatBits_1 (by decide) ?_
      refine aw_bipush (v := 127) dX6_floatBits_3 (by decide) ?_
      refine aw_callSl [.double (nd false c r), .int 23, .int 127] [] (sp_X6_bitsOf (d := d - 1) (by omega) 6 (by decide) false c r h) dX6_floatBits_5 ml_X6_93 sm_X6_bitsOf rfl (dl1 (d := d) (by omega)) rfl rfl (Nat.le_of_ble_eq_true rfl) rfl rfl (Nat.zero_le _) (Nat.zero_le _) ?_
      refine aw_lstore_n [(2, .long (lN (fbN 6 false (c / 2 ^ (52 - rmK 6)) (r + 52 + bsK 6).toNat))), (0, .double (nd false c r))] dX6_floatBits_8 (Nat.le_of_ble_eq_true rfl) rfl ?_
      refine aw_dload_n dX6_floatBits_9 1 rfl ?_
      refine aw_dconst0 dX6_floatBits_10 ?_
      refine aw_dcmp dX6_floatBits_11 ?_
      refine aw_if_ge 23 dX6_floatBits_12 (by decide) (fun c1 => ?_) (fun c1 => absurd ((c0_v hcp (h0.val false)).1.mpr rfl) c1)
      refine aw_lload_n dX6_floatBits_23 0 rfl ?_
      refine aw_lret dX6_floatBits_24 rfl (Nat.zero_le _) (Nat.zero_le _) ?_
      exact ⟨rfl, rfl⟩
    · refine aw_dload_n dX6_floatBits_0 0 rfl ?_
      refine aw_bipush (v := 23) dX6_floatBits_1 (by decide) ?_
      refine aw_bipush (v := 127) dX6_floatBits_3 (by decide) ?_
      refine aw_callSl [.double (nd true c r), .int 23, .int 127] [] (sp_X6_bitsOf (d := d - 1) (by omega) 6 (by decide) true c r h) dX6_floatBits_5 ml_X6_93 sm_X6_bitsOf rfl (dl1 (d := d) (by omega)) rfl rfl (Nat.le_of_ble_eq_true rfl) rfl rfl (Nat.zero_le _) (Nat.zero_le _) ?_
      refine aw_lstore_n [(2, .long (lN (fbN 6 false (c / 2 ^ (52 - rmK 6)) (r + 52 + bsK 6).toNat))), (0, .double (nd true c r))] dX6_floatBits_8 (Nat.le_of_ble_eq_true rfl) rfl ?_
      refine aw_dload_n dX6_floatBits_9 1 rfl ?_
      refine aw_dconst0 dX6_floatBits_10 ?_
      refine aw_dcmp dX6_floatBits_11 ?_
      refine aw_if_ge 23 dX6_floatBits_12 (by decide) (fun c1 => absurd ((c0_v hcp (h0.val true)).1.mp c1) (by decide)) (fun c1 => ?_)
      refine aw_lload_n dX6_floatBits_15 0 rfl ?_
      refine aw_ldc2 dX6_floatBits_16 kc_X6_97 ?_
      refine aw_lsub dX6_floatBits_19 ?_
      refine aw_goto 24 dX6_floatBits_20 (by decide) ?_
      refine aw_lret dX6_floatBits_24 rfl (Nat.zero_le _) (Nat.zero_le _) ?_
      refine ⟨congrArg (fun z => some (Value.long z)) ?_, rfl⟩
      show lN (fbN 6 false (c / 2 ^ (52 - rmK 6)) (r + 52 + bsK 6).toNat) - lN 2147483648 = _
      rw [lN_wrap (by decide)]
      refine congrArg lN ?_
      unfold fbN
      show 0 * 2147483648 + _ + _ + 18446744071562067968 = 8589934591 * 2147483648 + _ + _
      omega
theorem sp_X6_doubleBits {d : Nat} (hd : 1 ≤ d) {M : xM} (u : UInt64) (hu : isD 7 u) : Sp (fX6_doubleBits d) [.double u] M (dt (some (.long (fb 7 u))) M) := by
  refine Sp.of pn_X6 (Nat.le_of_ble_eq_true rfl) (fun h => Bool.noConfusion h) ?_
  rcases hu with rfl | ⟨s, c, r, h, rfl⟩
  · rw [fb_0]
    refine aw_dload_n dX6_doubleBits_0 0 rfl ?_
    refine aw_bipush (v := 52) dX6_doubleBits_1 (by decide) ?_
    refine aw_sipush (v := 1023) dX6_doubleBits_3 (by decide) ?_
    refine aw_callSl [.double FP.dconst0, .int 52, .int 1023] [] (sp_X6_bitsOf0 _ _) dX6_doubleBits_6 ml_X6_93 sm_X6_bitsOf rfl (dl1 (d := d) (by omega)) rfl rfl (Nat.le_of_ble_eq_true rfl) rfl rfl (Nat.zero_le _) (Nat.zero_le _) ?_
    refine aw_lstore_n [(2, .long 0), (0, .double FP.dconst0)] dX6_doubleBits_9 (Nat.le_of_ble_eq_true rfl) rfl ?_
    refine aw_dload_n dX6_doubleBits_10 1 rfl ?_
    refine aw_dconst0 dX6_doubleBits_11 ?_
    refine aw_dcmp dX6_doubleBits_12 ?_
    refine aw_if_ge 24 dX6_doubleBits_13 (by decide) (fun c1 => ?_) (fun c1 => absurd (by decide +kernel) c1)
    refine aw_lload_n dX6_doubleBits_24 0 rfl ?_
    refine aw_lret dX6_doubleBits_25 rfl (Nat.zero_le _) (Nat.zero_le _) ?_
    exact ⟨rfl, rfl⟩
  · have h0 := okD_nrm0 h
    have hcp : 0 < c := by have := h.1; omega
    rw [fb_nd s h]
    obtain ⟨⟨e1, e2, e3, e4⟩, -⟩ := okE_of (k := 7) (by decide) h
    cases s
    · refine aw_dload_n dX6_doubleBits_0 0 rfl ?_
      refine aw_bipush (v := 52) dX6_doubleBits_1 (by decide) ?_
      refine aw_sipush (v := 1023) dX6_doubleBits_3 (by decide) ?_
      refine aw_callSl [.double (nd false c r), .int 52, .int 1023] [] (sp_X6_bitsOf (d := d - 1) (by omega) 7 (by decide) false c r h) dX6_doubleBits_6 ml_X6_93 sm_X6_bitsOf rfl (dl1 (d := d) (by omega)) rfl rfl (Nat.le_of_ble_eq_true rfl) rfl rfl (Nat.zero_le _) (Nat.zero_le _) ?_
      refine aw_lstore_n [(2, .long (lN (fbN 7 false (c / 2 ^ (52 - rmK 7)) (r + 52 + bsK 7).toNat))), (0, .double (nd false c r))] dX6_doubleBits_9 (Nat.le_of_ble_eq_true rfl) rfl ?_
      refine aw_dload_n dX6_doubleBits_10 1 rfl ?_
      refine aw_dconst0 dX6_doubleBits_11 ?_
      refine aw_dcmp dX6_doubleBits_12 ?_
      refine aw_if_ge 24 dX6_doubleBits_13 (by decide) (fun c1 => ?_) (fun c1 => absurd ((c0_v hcp (h0.val false)).1.mpr rfl) c1)
      refine aw_lload_n dX6_doubleBits_24 0 rfl ?_
      refine aw_lret dX6_doubleBits_25 rfl (Nat.zero_le _) (Nat.zero_le _) ?_
      exact ⟨rfl, rfl⟩
    · refine aw_dload_n dX6_doubleBits_0 0 rfl ?_
      refine aw_bipush (v := 52) dX6_doubleBits_1 (by decide) ?_
      refine aw_sipush (v := 1023) dX6_doubleBits_3 (by decide) ?_
      refine aw_callSl [.double (nd true c r), .int 52, .int 1023] [] (sp_X6_bitsOf (d := d - 1) (by omega) 7 (by decide) true c r h) dX6_doubleBits_6 ml_X6_93 sm_X6_bitsOf rfl (dl1 (d := d) (by omega)) rfl rfl (Nat.le_of_ble_eq_true rfl) rfl rfl (Nat.zero_le _) (Nat.zero_le _) ?_
      refine aw_lstore_n [(2, .long (lN (fbN 7 false (c / 2 ^ (52 - rmK 7)) (r + 52 + bsK 7).toNat))), (0, .double (nd true c r))] dX6_doubleBits_9 (Nat.le_of_ble_eq_true rfl) rfl ?_
      refine aw_dload_n dX6_doubleBits_10 1 rfl ?_
      refine aw_dconst0 dX6_doubleBits_11 ?_
      refine aw_dcmp dX6_doubleBits_12 ?_
      refine aw_if_ge 24 dX6_doubleBits_13 (by decide) (fun c1 => absurd ((c0_v hcp (h0.val true)).1.mp c1) (by decide)) (fun c1 => ?_)
      refine aw_lload_n dX6_doubleBits_16 0 rfl ?_
      refine aw_ldc2 dX6_doubleBits_17 kc_X6_99 ?_
      refine aw_lor dX6_doubleBits_20 ?_
      refine aw_goto 25 dX6_doubleBits_21 (by decide) ?_
      refine aw_lret dX6_doubleBits_25 rfl (Nat.zero_le _) (Nat.zero_le _) ?_
      refine ⟨congrArg (fun z => some (Value.long z)) ?_, rfl⟩
      show lN (fbN 7 false (c / 2 ^ (52 - rmK 7)) (r + 52 + bsK 7).toNat) ||| lN (1 * 9223372036854775808) = _
      have q := (fb_lt (k := 7) (by decide) false e1 e2 e4).2.1 rfl
      rw [g_or' (k := 63) (p := 9223372036854775808) rfl q (by have q : fbN 7 false (c / 2 ^ (52 - rmK 7)) (r + 52 + bsK 7).toNat < 9223372036854775808 := q; omega)]
      refine congrArg lN ?_
      unfold fbN
      show 0 * 9223372036854775808 + _ + _ + 1 * 9223372036854775808 = 1 * 9223372036854775808 + _ + _
      omega
