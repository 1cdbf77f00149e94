-- BITS OF A DOUBLE, AND BACK: the class
theorem n64e {x y : UInt64} (e : x = y) (h : vf_n64 y) : vf_n64 x := e ▸ h
theorem n32e {x y : UInt32} (e : x = y) (h : vf_n32 y) : vf_n32 x := e ▸ h
theorem n64_0 : vf_n64 FP.dconst0 := n64_of k0
theorem okD_nrm {k c : Nat} {r : Int} (h : okD k c r) (j : Int) (h1 : -150 ≤ j) (h2 : j ≤ 150) : nrm c (r + j) := ⟨h.1, h.2.1, by have := h.2.2.1; omega, by have := h.2.2.2.1; omega⟩
theorem okD_nrm0 {k c : Nat} {r : Int} (h : okD k c r) : nrm c r := ⟨h.1, h.2.1, by have := h.2.2.1; omega, by have := h.2.2.2.1; omega⟩
theorem nrmw {c : Nat} {r : Int} (q : Int) (h : nrm c r) (h1 : -300 ≤ q) (h2 : q ≤ 300) : nrm c q := ⟨h.1, h.2.1, h1, h2⟩
theorem fb_nd {k c : Nat} {r : Int} (s : Bool) (h : okD k c r) : fb k (nd s c r) = lN (fbN k s (c / 2 ^ (52 - rmK k)) (r + 52 + bsK k).toNat) := by
  unfold fb
  rw [(okD_nrm0 h).val s]
  show (if c = 0 then _ else _) = _
  rw [if_neg (by have := h.1; omega)]
theorem dneg_v {x : UInt64} {s : Bool} {c : Nat} {r : Int} (h : FP.Core.val64 x = .fin s c r) : FP.Core.val64 (FP.dneg x) = .fin (!s) c r := by
  rw [FP.val64_dneg, h]
  rfl
theorem c0_lim {y : UInt64} {q : Int} {op : CmpOp} (hy : FP.Core.val64 y = .fin false (2 ^ 52) q) : ¬ 0 ≤ Op.cmpValue (FP.dcmp FP.dconst0 y) op := by
  rw [dcmp_v k0 hy, cv_ge]
  have h1 : 0 < 2 ^ 52 * 2 ^ (q - min (-1074) q).toNat := Nat.mul_pos (by decide) (Nat.two_pow_pos _)
  show ¬ ((2 ^ 52 * 2 ^ (q - min (-1074) q).toNat : Nat) : Int) ≤ ((0 * 2 ^ (-1074 - min (-1074) q).toNat : Nat) : Int)
  rw [Nat.zero_mul]
  omega
theorem c0_nlim {y : UInt64} {q : Int} {op : CmpOp} (hy : FP.Core.val64 y = .fin true (2 ^ 52) q) : ¬ Op.cmpValue (FP.dcmp FP.dconst0 y) op ≤ 0 := by
  rw [dcmp_v k0 hy, cv_le]
  have h1 : 0 < 2 ^ 52 * 2 ^ (q - min (-1074) q).toNat := Nat.mul_pos (by decide) (Nat.two_pow_pos _)
  show ¬ ((0 * 2 ^ (-1074 - min (-1074) q).toNat : Nat) : Int) ≤ -((2 ^ 52 * 2 ^ (q - min (-1074) q).toNat : Nat) : Int)
  rw [Nat.zero_mul]
  omega
theorem d2l_0 : FP.d2l FP.dconst0 = 0 := by decide +kernel
theorem m0_8 : FP.dmul FP.dconst0 4620693217682128896 = FP.dconst0 := by decide +kernel
theorem m0_e : FP.dmul FP.dconst0 4593671619917905920 = FP.dconst0 := by decide +kernel
theorem l2d_0 : FP.l2d 0 = FP.dconst0 := by decide +kernel
theorem k24m : FP.Core.val64 4715268809856909312 = .fin false (2 ^ 52) (-28) := by decide +kernel
theorem k53m : FP.Core.val64 4845873199050653696 = .fin false (2 ^ 52) 1 := by decide +kernel
theorem lp_X0_bitsOf {d : Nat} (hd : 3 ≤ d) {M : xM} (k : Nat) (u lim : UInt64) (s : Bool) (c : Nat) (l : Int) (hl : FP.Core.val64 lim = .fin false (2 ^ 52) l) (hl2 : -28 ≤ l ∧ l ≤ 1) {r : Int} (h : nrm c r) : ∀ (n i : Nat) (q : Int), (n = 0 → q < l) → (0 < n → q = l + n - 1) → i + n < 100 → -200 ≤ q → AW (fX0_bitsOf d) 26 [(7, .int (nI i)), (5, .double (nd s c q)), (3, .double lim), (0, .int (nI k)), (1, .double u)] [] M 0 0 (dt (some (.long (sX0_scaledBits (nI k) (FP.d2l (nd s c (q - n))) (nI (i + n))))) M) := by
  have hn := dneg_v hl
  intro n
  induction n with
  | zero =>
    intro i q h1 h2 h3 h4
    have hq : nrm c q := nrmw q h (by omega) (by have := h1 rfl; omega)
    rw [show q - ((0 : Nat) : Int) = q by omega, Nat.add_zero]
    cases s
    · refine aw_iload dX0_bitsOf_26 0 rfl ?_
      refine aw_bipush (v := 100) dX0_bitsOf_28 (by decide) ?_
      refine aw_icmp_geN i 100 62 dX0_bitsOf_30 (by decide) rfl rfl (by omega) (by omega) (fun c1 => absurd c1 (by omega)) (fun c1 => ?_)
      refine aw_dload dX0_bitsOf_33 1 rfl ?_
      refine aw_dload_n dX0_bitsOf_35 2 rfl ?_
      refine aw_dcmp dX0_bitsOf_36 ?_
      refine aw_if_ge 48 dX0_bitsOf_37 (by decide) (fun c2 => absurd ((cge_p hq rfl hl).mp c2).2 (by have := h1 rfl; omega)) (fun c2 => ?_)
      refine aw_dload dX0_bitsOf_40 1 rfl ?_
      refine aw_dload_n dX0_bitsOf_42 2 rfl ?_
      refine aw_dneg dX0_bitsOf_43 ?_
      refine aw_dcmp dX0_bitsOf_44 ?_
      refine aw_if_gt 62 dX0_bitsOf_45 (by decide) (fun c3 => ?_) (fun c3 => absurd ((cle_n hq rfl hn).mp (Int32.not_lt.mp c3)) (fun z => by have := h1 rfl; omega))
      refine aw_iload_n dX0_bitsOf_62 3 rfl ?_
      refine aw_dload dX0_bitsOf_63 1 rfl ?_
      refine aw_d2l dX0_bitsOf_65 ?_
      refine aw_iload dX0_bitsOf_66 0 rfl ?_
      refine aw_callSl [.int (nI k), .long (FP.d2l (nd false c q)), .int (nI i)] [] (sp_X0_scaledBits (d := d - 1) (by omega) (nI k) (FP.d2l (nd false c q)) (nI i)) dX0_bitsOf_68 ml_X0_45 sm_X0_scaledBits rfl (dl1 (d := d) (by omega)) rfl rfl (Nat.le_of_ble_eq_true rfl) rfl rfl (Nat.zero_le _) (Nat.zero_le _) ?_
      refine aw_lret dX0_bitsOf_71 rfl (Nat.zero_le _) (Nat.zero_le _) ?_
      exact ⟨rfl, rfl⟩
    · refine aw_iload dX0_bitsOf_26 0 rfl ?_
      refine aw_bipush (v := 100) dX0_bitsOf_28 (by decide) ?_
      refine aw_icmp_geN i 100 62 dX0_bitsOf_30 (by decide) rfl rfl (by omega) (by omega) (fun c1 => absurd c1 (by omega)) (fun c1 => ?_)
      refine aw_dload dX0_bitsOf_33 1 rfl ?_
      refine aw_dload_n dX0_bitsOf_35 2 rfl ?_
      refine aw_dcmp dX0_bitsOf_36 ?_
      refine aw_if_ge 48 dX0_bitsOf_37 (by decide) (fun c2 => absurd ((cge_p hq rfl hl).mp c2).2 (by have := h1 rfl; omega)) (fun c2 => ?_)
      refine aw_dload dX0_bitsOf_40 1 rfl ?_
      refine aw_dload_n dX0_bitsOf_42 2 rfl ?_
      refine aw_dneg dX0_bitsOf_43 ?_
      refine aw_dcmp dX0_bitsOf_44 ?_
      refine aw_if_gt 62 dX0_bitsOf_45 (by decide) (fun c3 => ?_) (fun c3 => absurd ((cle_n hq rfl hn).mp (Int32.not_lt.mp c3)) (fun z => by have := h1 rfl; omega))
      refine aw_iload_n dX0_bitsOf_62 3 rfl ?_
      refine aw_dload dX0_bitsOf_63 1 rfl ?_
      refine aw_d2l dX0_bitsOf_65 ?_
      refine aw_iload dX0_bitsOf_66 0 rfl ?_
      refine aw_callSl [.int (nI k), .long (FP.d2l (nd true c q)), .int (nI i)] [] (sp_X0_scaledBits (d := d - 1) (by omega) (nI k) (FP.d2l (nd true c q)) (nI i)) dX0_bitsOf_68 ml_X0_45 sm_X0_scaledBits rfl (dl1 (d := d) (by omega)) rfl rfl (Nat.le_of_ble_eq_true rfl) rfl rfl (Nat.zero_le _) (Nat.zero_le _) ?_
      refine aw_lret dX0_bitsOf_71 rfl (Nat.zero_le _) (Nat.zero_le _) ?_
      exact ⟨rfl, rfl⟩
  | succ n ih =>
    intro i q h1 h2 h3 h4
    have e2 := h2 (by omega)
    have hq : nrm c q := nrmw q h (by omega) (by omega)
    have hk : ∀ M2 : xM, M2 = M → AW (fX0_bitsOf d) 26 [(7, .int (nI (i + 1))), (5, .double (nd s c (q + (-1)))), (3, .double lim), (0, .int (nI k)), (1, .double u)] [] M 0 0 (dt (some (.long (sX0_scaledBits (nI k) (FP.d2l (nd s c (q - ((n + 1 : Nat) : Int)))) (nI (i + (n + 1)))))) M) := by
      intro _ _
      have g := ih (i + 1) (q + (-1)) (fun z => by omega) (fun z => by omega) (by omega) (by omega)
      rw [show q + (-1) - (n : Int) = q - ((n + 1 : Nat) : Int) by omega, show i + 1 + n = i + (n + 1) by omega] at g
      exact g
    cases s
    · refine aw_iload dX0_bitsOf_26 0 rfl ?_
      refine aw_bipush (v := 100) dX0_bitsOf_28 (by decide) ?_
      refine aw_icmp_geN i 100 62 dX0_bitsOf_30 (by decide) rfl rfl (by omega) (by omega) (fun c1 => absurd c1 (by omega)) (fun c1 => ?_)
      refine aw_dload dX0_bitsOf_33 1 rfl ?_
      refine aw_dload_n dX0_bitsOf_35 2 rfl ?_
      refine aw_dcmp dX0_bitsOf_36 ?_
      refine aw_if_ge 48 dX0_bitsOf_37 (by decide) (fun c2 => ?_) (fun c2 => absurd ((cge_p hq rfl hl).mpr ⟨rfl, by omega⟩) c2)
      refine aw_dload dX0_bitsOf_48 1 rfl ?_
      refine aw_ldc2d dX0_bitsOf_50 kc_X0_43 ?_
      refine aw_dmul dX0_bitsOf_53 (n64e (dmul_p (-1) hq (nrmw _ h (by omega) (by omega)) kh) ((nrmw _ h (by omega) (by omega)).n _)) ?_
      refine aw_topdE (dmul_p (-1) hq (nrmw _ h (by omega) (by omega)) kh) ?_
      refine aw_dstore [(5, .double (nd false c (q + (-1)))), (7, .int (nI i)), (3, .double lim), (0, .int (nI k)), (1, .double u)] dX0_bitsOf_54 (Nat.le_of_ble_eq_true rfl) rfl ?_
      refine aw_iincN i 1 [(7, .int (nI (i + 1))), (5, .double (nd false c (q + (-1)))), (3, .double lim), (0, .int (nI k)), (1, .double u)] dX0_bitsOf_56 1 rfl rfl rfl (Nat.le_of_ble_eq_true rfl) rfl ?_
      refine aw_goto 26 dX0_bitsOf_59 (by decide) ?_
      exact hk M rfl
    · refine aw_iload dX0_bitsOf_26 0 rfl ?_
      refine aw_bipush (v := 100) dX0_bitsOf_28 (by decide) ?_
      refine aw_icmp_geN i 100 62 dX0_bitsOf_30 (by decide) rfl rfl (by omega) (by omega) (fun c1 => absurd c1 (by omega)) (fun c1 => ?_)
      refine aw_dload dX0_bitsOf_33 1 rfl ?_
      refine aw_dload_n dX0_bitsOf_35 2 rfl ?_
      refine aw_dcmp dX0_bitsOf_36 ?_
      refine aw_if_ge 48 dX0_bitsOf_37 (by decide) (fun c2 => absurd ((cge_p hq rfl hl).mp c2).1 (by decide)) (fun c2 => ?_)
      refine aw_dload dX0_bitsOf_40 1 rfl ?_
      refine aw_dload_n dX0_bitsOf_42 2 rfl ?_
      refine aw_dneg dX0_bitsOf_43 ?_
      refine aw_dcmp dX0_bitsOf_44 ?_
      refine aw_if_gt 62 dX0_bitsOf_45 (by decide) (fun c3 => absurd ((cle_n hq rfl hn).mpr ⟨rfl, by omega⟩) (Int32.not_le.mpr c3)) (fun c3 => ?_)
      refine aw_dload dX0_bitsOf_48 1 rfl ?_
      refine aw_ldc2d dX0_bitsOf_50 kc_X0_43 ?_
      refine aw_dmul dX0_bitsOf_53 (n64e (dmul_p (-1) hq (nrmw _ h (by omega) (by omega)) kh) ((nrmw _ h (by omega) (by omega)).n _)) ?_
      refine aw_topdE (dmul_p (-1) hq (nrmw _ h (by omega) (by omega)) kh) ?_
      refine aw_dstore [(5, .double (nd true c (q + (-1)))), (7, .int (nI i)), (3, .double lim), (0, .int (nI k)), (1, .double u)] dX0_bitsOf_54 (Nat.le_of_ble_eq_true rfl) rfl ?_
      refine aw_iincN i 1 [(7, .int (nI (i + 1))), (5, .double (nd true c (q + (-1)))), (3, .double lim), (0, .int (nI k)), (1, .double u)] dX0_bitsOf_56 1 rfl rfl rfl (Nat.le_of_ble_eq_true rfl) rfl ?_
      refine aw_goto 26 dX0_bitsOf_59 (by decide) ?_
      exact hk M rfl
theorem zd {c z : Nat} (hz : z ≤ 52) (h1 : 2 ^ 52 ≤ c) (h2 : c < 2 ^ 53) (h3 : c % 2 ^ z = 0) : c = c / 2 ^ z * 2 ^ z ∧ (c / 2 ^ z).log2 = 52 - z ∧ 0 < c / 2 ^ z := by
  have hp := Nat.two_pow_pos z
  have e : c = c / 2 ^ z * 2 ^ z := (Nat.div_mul_cancel (Nat.dvd_of_mod_eq_zero h3)).symm
  have e1 : 2 ^ 52 = 2 ^ (52 - z) * 2 ^ z := by rw [← Nat.pow_add]; congr 1; omega
  have e2 : 2 ^ 53 = 2 ^ (52 - z + 1) * 2 ^ z := by rw [← Nat.pow_add]; congr 1; omega
  have g1 : 2 ^ (52 - z) ≤ c / 2 ^ z := by
    rw [e, e1] at h1
    exact Nat.le_of_mul_le_mul_right h1 hp
  have g2 : c / 2 ^ z < 2 ^ (52 - z + 1) := Nat.div_lt_of_lt_mul (by rw [Nat.mul_comm, ← e2]; exact h2)
  have g3 : 0 < c / 2 ^ z := Nat.lt_of_lt_of_le (Nat.two_pow_pos _) g1
  exact ⟨e, (Nat.log2_eq_iff (by omega)).mpr ⟨g1, g2⟩, g3⟩
theorem rmK_le {k : Nat} (hk : k = 6 ∨ k = 7) : rmK k ≤ 52 ∧ 23 ≤ rmK k := by rcases hk with rfl | rfl <;> decide
/-- scaledBits of the digits and exponent that bitsOf finds -/
theorem sc_nd {k c e z : Nat} {r : Int} (hk : k = 6 ∨ k = 7) (s : Bool) (h : okD k c r) (hz : z ≤ 52) (hz2 : 52 - rmK k ≤ z) (hd : c % 2 ^ z = 0) (he : (e : Int) = r + 3 + z) : sX0_scaledBits (nI k) (FP.d2l (nd s c (-(z : Int)))) (nI e) = fb k (nd s c r) := by
  obtain ⟨h1, h2, h3, h4, h5, h6⟩ := h
  obtain ⟨g1, g2, g3⟩ := zd hz h1 h2 hd
  have hn : nrm c (-(z : Int)) := ⟨h1, h2, by omega, by omega⟩
  rw [fb_nd s ⟨h1, h2, h3, h4, h5, h6⟩, d2l_v (n := c / 2 ^ z) (hn.val s) (by rw [show (-(z : Int)).toNat = 0 by omega, show (-(-(z : Int))).toNat = z by omega, Nat.pow_zero, Nat.mul_one]) (Nat.lt_of_le_of_lt (Nat.div_le_self _ _) (by omega))]
  have hR := rmK_le hk
  have hlt : c / 2 ^ z < 2 ^ (rmK k + 1) := by
    have := Nat.lt_log2_self (n := c / 2 ^ z)
    rw [g2] at this
    exact Nat.lt_of_lt_of_le this (Nat.pow_le_pow_right (by decide) (by omega))
  rw [sc_of hk s g3 hlt (by omega), g2]
  congr 2
  · have e1 : c / 2 ^ z * 2 ^ (rmK k - (52 - z)) * 2 ^ (52 - rmK k) = c := by
      rw [Nat.mul_assoc, ← Nat.pow_add, show rmK k - (52 - z) + (52 - rmK k) = z by omega]
      exact g1.symm
    conv => rhs; rw [← e1]
    rw [Nat.mul_div_cancel _ (Nat.two_pow_pos _)]
  · omega
theorem sp_X0_bitsOf {d : Nat} (hd : 3 ≤ d) {M : xM} (k : Nat) (hk : k = 6 ∨ k = 7) (u : UInt64) (hu : isD k u) : Sp (fX0_bitsOf d) [.int (nI k), .double u] M (dt (some (.long (fb k u))) M) := by
  refine Sp.of pn_X0 (Nat.le_of_ble_eq_true rfl) (fun h => Bool.noConfusion h) ?_
  rcases hu with rfl | ⟨s, c, r, h, rfl⟩
  · rw [fb_0]
    rcases hk with rfl | rfl
    · refine aw_iload_n dX0_bitsOf_0 0 rfl ?_
      refine aw_bipush (v := 6) dX0_bitsOf_1 (by decide) ?_
      refine aw_icmp_neN 6 6 12 dX0_bitsOf_3 (by decide) rfl rfl (by omega) (by omega) (fun c1 => absurd rfl c1) (fun c1 => ?_)
      refine aw_ldc2d dX0_bitsOf_6 kc_X0_37 ?_
      refine aw_goto 15 dX0_bitsOf_9 (by decide) ?_
      refine aw_dstore_n [(3, .double 4715268809856909312), (0, .int (nI 6)), (1, .double FP.dconst0)] dX0_bitsOf_15 (Nat.le_of_ble_eq_true rfl) rfl ?_
      refine aw_dload_n dX0_bitsOf_16 2 rfl ?_
      refine aw_ldc2d dX0_bitsOf_17 kc_X0_41 ?_
      refine aw_dmul dX0_bitsOf_20 (n64e m0_8 n64_0) ?_
      refine aw_topdE m0_8 ?_
      refine aw_dstore [(5, .double FP.dconst0), (3, .double 4715268809856909312), (0, .int (nI 6)), (1, .double FP.dconst0)] dX0_bitsOf_21 (Nat.le_of_ble_eq_true rfl) rfl ?_
      refine aw_iconst (v := 0) dX0_bitsOf_23 (by decide) ?_
      refine aw_istore [(7, .int 0), (5, .double FP.dconst0), (3, .double 4715268809856909312), (0, .int (nI 6)), (1, .double FP.dconst0)] dX0_bitsOf_24 (Nat.le_of_ble_eq_true rfl) rfl ?_
      refine aw_iload dX0_bitsOf_26 0 rfl ?_
      refine aw_bipush (v := 100) dX0_bitsOf_28 (by decide) ?_
      refine aw_icmp_ge 62 dX0_bitsOf_30 (by decide) (fun c2 => absurd c2 (by decide)) (fun c2 => ?_)
      refine aw_dload dX0_bitsOf_33 1 rfl ?_
      refine aw_dload_n dX0_bitsOf_35 2 rfl ?_
      refine aw_dcmp dX0_bitsOf_36 ?_
      refine aw_if_ge 48 dX0_bitsOf_37 (by decide) (fun c3 => absurd c3 (c0_lim k24)) (fun c3 => ?_)
      refine aw_dload dX0_bitsOf_40 1 rfl ?_
      refine aw_dload_n dX0_bitsOf_42 2 rfl ?_
      refine aw_dneg dX0_bitsOf_43 ?_
      refine aw_dcmp dX0_bitsOf_44 ?_
      refine aw_if_gt 62 dX0_bitsOf_45 (by decide) (fun c4 => ?_) (fun c4 => absurd (Int32.not_lt.mp c4) (c0_nlim (dneg_v k24)))
      refine aw_iload_n dX0_bitsOf_62 3 rfl ?_
      refine aw_dload dX0_bitsOf_63 1 rfl ?_
      refine aw_d2l dX0_bitsOf_65 ?_
      refine aw_iload dX0_bitsOf_66 0 rfl ?_
      refine aw_callSl [.int (nI 6), .long (FP.d2l FP.dconst0), .int 0] [] (sp_X0_scaledBits (d := d - 1) (by omega) (nI 6) (FP.d2l FP.dconst0) 0) dX0_bitsOf_68 ml_X0_45 sm_X0_scaledBits rfl (dl1 (d := d) (by omega)) rfl rfl (Nat.le_of_ble_eq_true rfl) rfl rfl (Nat.zero_le _) (Nat.zero_le _) ?_
      refine aw_lret dX0_bitsOf_71 rfl (Nat.zero_le _) (Nat.zero_le _) ?_
      exact ⟨congrArg (fun z => some (Value.long z)) (show sX0_scaledBits (nI 6) (FP.d2l FP.dconst0) 0 = 0 by rw [d2l_0]; rfl), rfl⟩
    · refine aw_iload_n dX0_bitsOf_0 0 rfl ?_
      refine aw_bipush (v := 6) dX0_bitsOf_1 (by decide) ?_
      refine aw_icmp_neN 7 6 12 dX0_bitsOf_3 (by decide) rfl rfl (by omega) (by omega) (fun c1 => ?_) (fun c1 => absurd c1 (by decide))
      refine aw_ldc2d dX0_bitsOf_12 kc_X0_39 ?_
      refine aw_dstore_n [(3, .double 4845873199050653696), (0, .int (nI 7)), (1, .double FP.dconst0)] dX0_bitsOf_15 (Nat.le_of_ble_eq_true rfl) rfl ?_
      refine aw_dload_n dX0_bitsOf_16 2 rfl ?_
      refine aw_ldc2d dX0_bitsOf_17 kc_X0_41 ?_
      refine aw_dmul dX0_bitsOf_20 (n64e m0_8 n64_0) ?_
      refine aw_topdE m0_8 ?_
      refine aw_dstore [(5, .double FP.dconst0), (3, .double 4845873199050653696), (0, .int (nI 7)), (1, .double FP.dconst0)] dX0_bitsOf_21 (Nat.le_of_ble_eq_true rfl) rfl ?_
      refine aw_iconst (v := 0) dX0_bitsOf_23 (by decide) ?_
      refine aw_istore [(7, .int 0), (5, .double FP.dconst0), (3, .double 4845873199050653696), (0, .int (nI 7)), (1, .double FP.dconst0)] dX0_bitsOf_24 (Nat.le_of_ble_eq_true rfl) rfl ?_
      refine aw_iload dX0_bitsOf_26 0 rfl ?_
      refine aw_bipush (v := 100) dX0_bitsOf_28 (by decide) ?_
      refine aw_icmp_ge 62 dX0_bitsOf_30 (by decide) (fun c2 => absurd c2 (by decide)) (fun c2 => ?_)
      refine aw_dload dX0_bitsOf_33 1 rfl ?_
      refine aw_dload_n dX0_bitsOf_35 2 rfl ?_
      refine aw_dcmp dX0_bitsOf_36 ?_
      refine aw_if_ge 48 dX0_bitsOf_37 (by decide) (fun c3 => absurd c3 (c0_lim k53)) (fun c3 => ?_)
      refine aw_dload dX0_bitsOf_40 1 rfl ?_
      refine aw_dload_n dX0_bitsOf_42 2 rfl ?_
      refine aw_dneg dX0_bitsOf_43 ?_
      refine aw_dcmp dX0_bitsOf_44 ?_
      refine aw_if_gt 62 dX0_bitsOf_45 (by decide) (fun c4 => ?_) (fun c4 => absurd (Int32.not_lt.mp c4) (c0_nlim (dneg_v k53)))
      refine aw_iload_n dX0_bitsOf_62 3 rfl ?_
      refine aw_dload dX0_bitsOf_63 1 rfl ?_
      refine aw_d2l dX0_bitsOf_65 ?_
      refine aw_iload dX0_bitsOf_66 0 rfl ?_
      refine aw_callSl [.int (nI 7), .long (FP.d2l FP.dconst0), .int 0] [] (sp_X0_scaledBits (d := d - 1) (by omega) (nI 7) (FP.d2l FP.dconst0) 0) dX0_bitsOf_68 ml_X0_45 sm_X0_scaledBits rfl (dl1 (d := d) (by omega)) rfl rfl (Nat.le_of_ble_eq_true rfl) rfl rfl (Nat.zero_le _) (Nat.zero_le _) ?_
      refine aw_lret dX0_bitsOf_71 rfl (Nat.zero_le _) (Nat.zero_le _) ?_
      exact ⟨congrArg (fun z => some (Value.long z)) (show sX0_scaledBits (nI 7) (FP.d2l FP.dconst0) 0 = 0 by rw [d2l_0]; rfl), rfl⟩
  · have h0 := (okD_nrm0 h)
    rcases hk with rfl | rfl
    · refine aw_iload_n dX0_bitsOf_0 0 rfl ?_
      refine aw_bipush (v := 6) dX0_bitsOf_1 (by decide) ?_
      refine aw_icmp_neN 6 6 12 dX0_bitsOf_3 (by decide) rfl rfl (by omega) (by omega) (fun c1 => absurd rfl c1) (fun c1 => ?_)
      refine aw_ldc2d dX0_bitsOf_6 kc_X0_37 ?_
      refine aw_goto 15 dX0_bitsOf_9 (by decide) ?_
      refine aw_dstore_n [(3, .double 4715268809856909312), (0, .int (nI 6)), (1, .double (nd s c r))] dX0_bitsOf_15 (Nat.le_of_ble_eq_true rfl) rfl ?_
      refine aw_dload_n dX0_bitsOf_16 2 rfl ?_
      refine aw_ldc2d dX0_bitsOf_17 kc_X0_41 ?_
      refine aw_dmul dX0_bitsOf_20 (n64e (dmul_p 3 h0 (okD_nrm h 3 (by decide) (by decide)) k8) ((okD_nrm h 3 (by decide) (by decide)).n _)) ?_
      refine aw_topdE (dmul_p 3 h0 (okD_nrm h 3 (by decide) (by decide)) k8) ?_
      refine aw_dstore [(5, .double (nd s c (r + 3))), (3, .double 4715268809856909312), (0, .int (nI 6)), (1, .double (nd s c r))] dX0_bitsOf_21 (Nat.le_of_ble_eq_true rfl) rfl ?_
      refine aw_iconst (v := 0) dX0_bitsOf_23 (by decide) ?_
      refine aw_istore [(7, .int 0), (5, .double (nd s c (r + 3))), (3, .double 4715268809856909312), (0, .int (nI 6)), (1, .double (nd s c r))] dX0_bitsOf_24 (Nat.le_of_ble_eq_true rfl) rfl ?_
      by_cases g : r + 3 < -28
      · have q := lp_X0_bitsOf (by omega) (M := M) 6 (nd s c r) 4715268809856909312 s c (-28) k24m (by omega) h0 0 0 (r + 3) (fun _ => g) (fun z => by omega) (by omega) (by have := h.2.2.1; omega)
        have e : sX0_scaledBits (nI 6) (FP.d2l (nd s c (r + 3 - ((0 : Nat) : Int)))) (nI (0 + 0)) = fb 6 (nd s c r) := by
          have := h.2.2.1
          rw [show r + 3 - ((0 : Nat) : Int) = -(((-3 - r).toNat : Nat) : Int) by omega]
          exact sc_nd (by decide) s h (by omega) (by show 52 - 23 ≤ _; omega) (by exact h.2.2.2.2.1 (by omega)) (by omega)
        rw [e] at q
        exact q
      · have q := lp_X0_bitsOf (by omega) (M := M) 6 (nd s c r) 4715268809856909312 s c (-28) k24m (by omega) h0 (r + 3 - (-28) + 1).toNat 0 (r + 3) (fun z => by omega) (fun z => by omega) (by have := h.2.2.2.1; omega) (by have := h.2.2.1; omega)
        have e : sX0_scaledBits (nI 6) (FP.d2l (nd s c (r + 3 - (((r + 3 - (-28) + 1).toNat : Nat) : Int)))) (nI (0 + (r + 3 - (-28) + 1).toNat)) = fb 6 (nd s c r) := by
          rw [show r + 3 - (((r + 3 - (-28) + 1).toNat : Nat) : Int) = -((29 : Nat) : Int) by omega]
          exact sc_nd (by decide) s h (by decide) (by decide) (h.2.2.2.2.2 rfl) (by omega)
        rw [e] at q
        exact q
    · refine aw_iload_n dX0_bitsOf_0 0 rfl ?_
      refine aw_bipush (v := 6) dX0_bitsOf_1 (by decide) ?_
      refine aw_icmp_neN 7 6 12 dX0_bitsOf_3 (by decide) rfl rfl (by omega) (by omega) (fun c1 => ?_) (fun c1 => absurd c1 (by decide))
      refine aw_ldc2d dX0_bitsOf_12 kc_X0_39 ?_
      refine aw_dstore_n [(3, .double 4845873199050653696), (0, .int (nI 7)), (1, .double (nd s c r))] dX0_bitsOf_15 (Nat.le_of_ble_eq_true rfl) rfl ?_
      refine aw_dload_n dX0_bitsOf_16 2 rfl ?_
      refine aw_ldc2d dX0_bitsOf_17 kc_X0_41 ?_
      refine aw_dmul dX0_bitsOf_20 (n64e (dmul_p 3 h0 (okD_nrm h 3 (by decide) (by decide)) k8) ((okD_nrm h 3 (by decide) (by decide)).n _)) ?_
      refine aw_topdE (dmul_p 3 h0 (okD_nrm h 3 (by decide) (by decide)) k8) ?_
      refine aw_dstore [(5, .double (nd s c (r + 3))), (3, .double 4845873199050653696), (0, .int (nI 7)), (1, .double (nd s c r))] dX0_bitsOf_21 (Nat.le_of_ble_eq_true rfl) rfl ?_
      refine aw_iconst (v := 0) dX0_bitsOf_23 (by decide) ?_
      refine aw_istore [(7, .int 0), (5, .double (nd s c (r + 3))), (3, .double 4845873199050653696), (0, .int (nI 7)), (1, .double (nd s c r))] dX0_bitsOf_24 (Nat.le_of_ble_eq_true rfl) rfl ?_
      by_cases g : r + 3 < 1
      · have q := lp_X0_bitsOf (by omega) (M := M) 7 (nd s c r) 4845873199050653696 s c (1) k53m (by omega) h0 0 0 (r + 3) (fun _ => g) (fun z => by omega) (by omega) (by have := h.2.2.1; omega)
        have e : sX0_scaledBits (nI 7) (FP.d2l (nd s c (r + 3 - ((0 : Nat) : Int)))) (nI (0 + 0)) = fb 7 (nd s c r) := by
          have := h.2.2.1
          rw [show r + 3 - ((0 : Nat) : Int) = -(((-3 - r).toNat : Nat) : Int) by omega]
          exact sc_nd (by decide) s h (by omega) (by show 52 - 52 ≤ _; omega) (by
          by_cases g2 : r < -3
          · exact h.2.2.2.2.1 g2
          · rw [show (-3 - r).toNat = 0 by omega, Nat.pow_zero, Nat.mod_one]) (by omega)
        rw [e] at q
        exact q
      · have q := lp_X0_bitsOf (by omega) (M := M) 7 (nd s c r) 4845873199050653696 s c (1) k53m (by omega) h0 (r + 3 - (1) + 1).toNat 0 (r + 3) (fun z => by omega) (fun z => by omega) (by have := h.2.2.2.1; omega) (by have := h.2.2.1; omega)
        have e : sX0_scaledBits (nI 7) (FP.d2l (nd s c (r + 3 - (((r + 3 - (1) + 1).toNat : Nat) : Int)))) (nI (0 + (r + 3 - (1) + 1).toNat)) = fb 7 (nd s c r) := by
          rw [show r + 3 - (((r + 3 - (1) + 1).toNat : Nat) : Int) = -((0 : Nat) : Int) by omega]
          exact sc_nd (by decide) s h (by decide) (by decide) (by rw [Nat.pow_zero, Nat.mod_one]) (by omega)
        rw [e] at q
        exact q
