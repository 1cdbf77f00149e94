-- REAL: the class; BITSOF, VALUE: the reference
theorem l2d_ex {n : Nat} (s : Bool) (h0 : 0 < n) (hn : n < 2 ^ 53) : FP.l2d (Int64.ofInt (FP.Core.signed s n)) = nd s (n * 2 ^ (52 - n.log2)) ((n.log2 : Int) - 52) ∧ nrm (n * 2 ^ (52 - n.log2)) ((n.log2 : Int) - 52) := by
  have l1 := Nat.log2_self_le (n := n) (by omega)
  have l2 := Nat.lt_log2_self (n := n)
  have hL : n.log2 < 53 := (Nat.log2_lt (by omega : n ≠ 0)).mpr hn
  have g1 : 2 ^ 52 = 2 ^ n.log2 * 2 ^ (52 - n.log2) := by rw [← Nat.pow_add]; congr 1; omega
  have g2 : 2 ^ 53 = 2 ^ (n.log2 + 1) * 2 ^ (52 - n.log2) := by rw [← Nat.pow_add]; congr 1; omega
  have hm : nrm (n * 2 ^ (52 - n.log2)) ((n.log2 : Int) - 52) := by
    refine ⟨?_, ?_, by omega, by omega⟩
    · rw [g1]; exact Nat.mul_le_mul_right _ l1
    · rw [g2]; exact Nat.mul_lt_mul_of_pos_right l2 (Nat.two_pow_pos _)
  refine ⟨?_, hm⟩
  apply nd_of
  show FP.Core.val64 (FP.Core.l2d _) = _
  have e1 : (Int64.ofInt (FP.Core.signed s n)).toInt = FP.Core.signed s n := by
    have hb : -(9223372036854775808 : Int) ≤ FP.Core.signed s n ∧ FP.Core.signed s n < 9223372036854775808 := by
      cases s
      · show -(9223372036854775808 : Int) ≤ (n : Int) ∧ (n : Int) < 9223372036854775808
        omega
      · show -(9223372036854775808 : Int) ≤ -(n : Int) ∧ -(n : Int) < 9223372036854775808
        omega
    have hz : Int64.size = 18446744073709551616 := rfl
    rw [Int64.toInt_ofInt, Int.bmod_eq_of_le (by omega) (by omega)]
  rw [FP.Core.val64_l2d, e1]
  have e2 : FP.Core.ofInt (FP.Core.signed s n) = .fin s n 0 := by
    unfold FP.Core.ofInt
    rw [FP.Core.natAbs_signed, FP.Core.signed_lt_zero s h0]
  rw [e2]
  refine rnd_ex hm ?_
  rw [show (0 - ((n.log2 : Int) - 52)).toNat = 52 - n.log2 by omega, show ((n.log2 : Int) - 52 - 0).toNat = 0 by omega, Nat.pow_zero, Nat.mul_one]
theorem bsK_le {k : Nat} (hk : k = 6 ∨ k = 7) : bsK k ≤ 1023 ∧ 127 ≤ bsK k := by rcases hk with rfl | rfl <;> decide
theorem okE_of {k c : Nat} {r : Int} (hk : k = 6 ∨ k = 7) (h : okD k c r) : okE k (c / 2 ^ (52 - rmK k)) (r + 52 + bsK k).toNat ∧ c = c / 2 ^ (52 - rmK k) * 2 ^ (52 - rmK k) := by
  obtain ⟨h1, h2, h3, h4, h5, h6⟩ := h
  rcases hk with rfl | rfl
  · have h6 := h6 rfl
    refine ⟨⟨?_, ?_, ?_, ?_⟩, ?_⟩
    · show 8388608 ≤ c / 536870912
      omega
    · show c / 536870912 < 16777216
      omega
    · show 0 < (r + 52 + (127 : Nat)).toNat
      omega
    · show (r + 52 + (127 : Nat)).toNat * 8388608 + 8388608 ≤ 2147483648
      omega
    · show c = c / 536870912 * 536870912
      have h6 : c % 536870912 = 0 := h6
      omega
  · refine ⟨⟨?_, ?_, ?_, ?_⟩, ?_⟩
    · show 4503599627370496 ≤ c / 1
      omega
    · show c / 1 < 9007199254740992
      omega
    · show 0 < (r + 52 + (1023 : Nat)).toNat
      omega
    · show (r + 52 + (1023 : Nat)).toNat * 4503599627370496 + 4503599627370496 ≤ 9223372036854775808
      omega
    · show c = c / 1 * 1
      omega
theorem dvd_odd {b a z : Nat} (h : (2 * b + 1) * 2 ^ a % 2 ^ z = 0) : z ≤ a := by
  rcases Nat.lt_or_ge a z with g | g
  · exfalso
    have e : 2 ^ z = 2 ^ a * (2 ^ (z - a - 1) * 2) := by rw [← Nat.pow_succ, ← Nat.pow_add]; congr 1; omega
    rw [e, Nat.mul_comm (2 * b + 1), Nat.mul_mod_mul_left] at h
    rcases Nat.mul_eq_zero.mp h with h | h
    · have := Nat.two_pow_pos a; omega
    · have h2 : (2 * b + 1) % 2 = 0 := by
        have := Nat.mod_mod_of_dvd (2 * b + 1) (show 2 ∣ 2 ^ (z - a - 1) * 2 from ⟨_, Nat.mul_comm _ _⟩)
        rw [h] at this
        omega
      omega
  · exact g
/-- the odd part of a number's digits, and how the class takes it apart -/
theorem parts_of {k c : Nat} {r : Int} (hk : k = 6 ∨ k = 7) (h : okD k c r) : ∃ b t, t ≤ rmK k ∧ c / 2 ^ (52 - rmK k) = (2 * b + 1) * 2 ^ t ∧ 2 * b + 1 < 2 ^ 53 ∧ (2 * b + 1).log2 = rmK k - t ∧ (2 * b + 1) * 2 ^ (52 - (rmK k - t)) = c ∧ bsK k + rmK k ≤ (r + 52 + bsK k).toNat + 3 + t ∧ (((r + 52 + bsK k).toNat + 3 + t - bsK k - rmK k : Nat) : Int) = r + 55 + t - rmK k := by
  obtain ⟨⟨e1, e2, e3, e4⟩, e5⟩ := okE_of hk h
  have hR := rmK_le hk
  obtain ⟨b, t, g1, g2⟩ := odd_ex (rmK k + 1) (c / 2 ^ (52 - rmK k)) (Nat.lt_of_lt_of_le (Nat.two_pow_pos _) e1) e2
  have ht := Nat.two_pow_pos t
  have hlt : 2 * b + 1 < 2 ^ (rmK k - t + 1) := by
    have e : 2 ^ (rmK k + 1) = 2 ^ (rmK k - t + 1) * 2 ^ t := by rw [← Nat.pow_add]; congr 1; omega
    rw [g2, e] at e2
    exact Nat.lt_of_mul_lt_mul_right e2
  have hge : 2 ^ (rmK k - t) ≤ 2 * b + 1 := by
    have e : 2 ^ rmK k = 2 ^ (rmK k - t) * 2 ^ t := by rw [← Nat.pow_add]; congr 1; omega
    rw [g2, e] at e1
    exact Nat.le_of_mul_le_mul_right e1 ht
  have hc : (2 * b + 1) * 2 ^ (52 - (rmK k - t)) = c := by
    rw [e5, g2, Nat.mul_assoc, ← Nat.pow_add]
    congr 2
    omega
  obtain ⟨h1, h2, h3, h4, h5, h6⟩ := h
  have hz : (-3 - r).toNat ≤ 52 - (rmK k - t) := by
    by_cases q : r < -3
    · have := h5 q
      rw [← hc] at this
      exact dvd_odd this
    · omega
  refine ⟨b, t, by omega, g2, Nat.lt_of_lt_of_le hlt (Nat.pow_le_pow_right (by decide) (by omega)), (Nat.log2_eq_iff (by omega)).mpr ⟨hge, hlt⟩, hc, ?_, ?_⟩
  · omega
  · omega
theorem lp_X0_real {d : Nat} {M : xM} (k e : Nat) (v : Int64) (s : Bool) (c : Nat) {r : Int} (h : nrm c r) (he : e < 1000) : ∀ (n i : Nat) (q : Int), i + n = e → -200 ≤ q → q + n ≤ 200 → AW (fX0_real d) 21 [(6, .int (nI i)), (5, .int (nI e)), (3, .double (nd s c q)), (0, .int (nI k)), (1, .long v)] [] M 0 0 (dt (some (.double (nd s c (q + n)))) M) := by
  intro n
  induction n with
  | zero =>
    intro i q h1 h2 h3
    rw [show q + ((0 : Nat) : Int) = q by omega]
    refine aw_iload dX0_real_21 0 rfl ?_
    refine aw_iload dX0_real_23 1 rfl ?_
    refine aw_icmp_geN i e 40 dX0_real_25 (by decide) rfl rfl (by omega) (by omega) (fun c1 => ?_) (fun c1 => absurd (by omega) c1)
    refine aw_dload_n dX0_real_40 2 rfl ?_
    refine aw_dret dX0_real_41 rfl (Nat.zero_le _) (Nat.zero_le _) ?_
    exact ⟨rfl, rfl⟩
  | succ n ih =>
    intro i q h1 h2 h3
    have g := ih (i + 1) (q + 1) (by omega) (by omega) (by omega)
    rw [show q + 1 + (n : Int) = q + ((n + 1 : Nat) : Int) by omega] at g
    refine aw_iload dX0_real_21 0 rfl ?_
    refine aw_iload dX0_real_23 1 rfl ?_
    refine aw_icmp_geN i e 40 dX0_real_25 (by decide) rfl rfl (by omega) (by omega) (fun c1 => absurd c1 (by omega)) (fun c1 => ?_)
    refine aw_dload_n dX0_real_28 2 rfl ?_
    refine aw_ldc2d dX0_real_29 kc_X0_65 ?_
    refine aw_dmul dX0_real_32 (n64e (dmul_p 1 (nrmw q h (by omega) (by omega)) (nrmw _ h (by omega) (by omega)) k2) ((nrmw _ h (by omega) (by omega)).n _)) ?_
    refine aw_topdE (dmul_p 1 (nrmw q h (by omega) (by omega)) (nrmw _ h (by omega) (by omega)) k2) ?_
    refine aw_dstore_n [(3, .double (nd s c (q + 1))), (6, .int (nI i)), (5, .int (nI e)), (0, .int (nI k)), (1, .long v)] dX0_real_33 (Nat.le_of_ble_eq_true rfl) rfl ?_
    refine aw_iincN i 1 [(6, .int (nI (i + 1))), (3, .double (nd s c (q + 1))), (5, .int (nI e)), (0, .int (nI k)), (1, .long v)] dX0_real_34 1 rfl rfl rfl (Nat.le_of_ble_eq_true rfl) rfl ?_
    refine aw_goto 21 dX0_real_37 (by decide) ?_
    refine aw_sub [0, 2, 1, 3, 4] rfl ?_
    exact g
theorem sp_X0_real {d : Nat} (hd : 3 ≤ d) {M : xM} (k : Nat) (hk : k = 6 ∨ k = 7) (u : UInt64) (hu : isD k u) : Sp (fX0_real d) [.int (nI k), .long (fb k u)] M (dt (some (.double u)) M) := by
  refine Sp.of pn_X0 (Nat.le_of_ble_eq_true rfl) (fun h => Bool.noConfusion h) ?_
  rcases hu with rfl | ⟨s, c, r, h, rfl⟩
  · rw [fb_0]
    refine aw_iload_n dX0_real_0 0 rfl ?_
    refine aw_lload_n dX0_real_1 1 rfl ?_
    refine aw_callSl [.int (nI k), .long 0] [] (sp_X0_oddPart (d := d - 1) (by omega) (nI k) 0) dX0_real_2 ml_X0_57 sm_X0_oddPart rfl (dl1 (d := d) (by omega)) rfl rfl (Nat.le_of_ble_eq_true rfl) rfl rfl (Nat.zero_le _) (Nat.zero_le _) ?_
    refine aw_toplE (show sX0_oddPart (nI k) 0 = 0 from rfl) ?_
    refine aw_l2d dX0_real_5 ?_
    refine aw_topdE l2d_0 ?_
    refine aw_ldc2d dX0_real_6 kc_X0_31 ?_
    refine aw_dmul dX0_real_9 (n64e m0_e n64_0) ?_
    refine aw_topdE m0_e ?_
    refine aw_dstore_n [(3, .double FP.dconst0), (0, .int (nI k)), (1, .long 0)] dX0_real_10 (Nat.le_of_ble_eq_true rfl) rfl ?_
    refine aw_iload_n dX0_real_11 1 rfl ?_
    refine aw_lload_n dX0_real_12 2 rfl ?_
    refine aw_callSi [.int (nI k), .long 0] [] (sp_X0_powerPart (d := d - 1) (by omega) (nI k) 0) dX0_real_13 ml_X0_61 sm_X0_powerPart rfl (dl1 (d := d) (by omega)) rfl rfl (Nat.le_of_ble_eq_true rfl) rfl rfl (Nat.zero_le _) (Nat.zero_le _) ?_
    refine aw_topE (show sX0_powerPart (nI k) 0 = 0 from rfl) ?_
    refine aw_istore [(5, .int 0), (3, .double FP.dconst0), (0, .int (nI k)), (1, .long 0)] dX0_real_16 (Nat.le_of_ble_eq_true rfl) rfl ?_
    refine aw_iconst (v := 0) dX0_real_18 (by decide) ?_
    refine aw_istore [(6, .int 0), (5, .int 0), (3, .double FP.dconst0), (0, .int (nI k)), (1, .long 0)] dX0_real_19 (Nat.le_of_ble_eq_true rfl) rfl ?_
    refine aw_iload dX0_real_21 0 rfl ?_
    refine aw_iload dX0_real_23 1 rfl ?_
    refine aw_icmp_ge 40 dX0_real_25 (by decide) (fun c1 => ?_) (fun c1 => absurd (by decide) c1)
    refine aw_dload_n dX0_real_40 2 rfl ?_
    refine aw_dret dX0_real_41 rfl (Nat.zero_le _) (Nat.zero_le _) ?_
    exact ⟨rfl, rfl⟩
  · have h0 := okD_nrm0 h
    obtain ⟨b, t, g1, g2, g3, g4, g5, g6, g7⟩ := parts_of hk h
    obtain ⟨hE, -⟩ := okE_of hk h
    have o1 := odd_of hk s hE g2 g1
    have o2 := pow_of hk s hE g2 g1 g6
    rw [← fb_nd s h] at o1 o2
    obtain ⟨l1, l2⟩ := l2d_ex s (show 0 < 2 * b + 1 by omega) g3
    rw [g4, g5] at l1 l2
    have hR := rmK_le hk
    have hr1 := h.2.2.1
    have hr2 := h.2.2.2.1
    have hb := bsK_le hk
    generalize hee : (r + 52 + bsK k).toNat + 3 + t - bsK k - rmK k = e at g7 o2
    refine aw_iload_n dX0_real_0 0 rfl ?_
    refine aw_lload_n dX0_real_1 1 rfl ?_
    refine aw_callSl [.int (nI k), .long (fb k (nd s c r))] [] (sp_X0_oddPart (d := d - 1) (by omega) (nI k) (fb k (nd s c r))) dX0_real_2 ml_X0_57 sm_X0_oddPart rfl (dl1 (d := d) (by omega)) rfl rfl (Nat.le_of_ble_eq_true rfl) rfl rfl (Nat.zero_le _) (Nat.zero_le _) ?_
    refine aw_toplE o1 ?_
    refine aw_l2d dX0_real_5 ?_
    refine aw_topdE l1 ?_
    refine aw_ldc2d dX0_real_6 kc_X0_31 ?_
    refine aw_dmul dX0_real_9 (n64e (dmul_p (-3) l2 (nrmw _ h0 (by omega) (by omega)) ke) ((nrmw _ h0 (by omega) (by omega)).n _)) ?_
    refine aw_topdE (dmul_p (-3) l2 (nrmw _ h0 (by omega) (by omega)) ke) ?_
    refine aw_dstore_n [(3, .double (nd s c (((rmK k - t : Nat) : Int) - 52 + (-3)))), (0, .int (nI k)), (1, .long (fb k (nd s c r)))] dX0_real_10 (Nat.le_of_ble_eq_true rfl) rfl ?_
    refine aw_iload_n dX0_real_11 1 rfl ?_
    refine aw_lload_n dX0_real_12 2 rfl ?_
    refine aw_callSi [.int (nI k), .long (fb k (nd s c r))] [] (sp_X0_powerPart (d := d - 1) (by omega) (nI k) (fb k (nd s c r))) dX0_real_13 ml_X0_61 sm_X0_powerPart rfl (dl1 (d := d) (by omega)) rfl rfl (Nat.le_of_ble_eq_true rfl) rfl rfl (Nat.zero_le _) (Nat.zero_le _) ?_
    refine aw_topE o2 ?_
    refine aw_istore [(5, .int (nI e)), (3, .double (nd s c (((rmK k - t : Nat) : Int) - 52 + (-3)))), (0, .int (nI k)), (1, .long (fb k (nd s c r)))] dX0_real_16 (Nat.le_of_ble_eq_true rfl) rfl ?_
    refine aw_iconst (v := 0) dX0_real_18 (by decide) ?_
    refine aw_istore [(6, .int 0), (5, .int (nI e)), (3, .double (nd s c (((rmK k - t : Nat) : Int) - 52 + (-3)))), (0, .int (nI k)), (1, .long (fb k (nd s c r)))] dX0_real_19 (Nat.le_of_ble_eq_true rfl) rfl ?_
    have q := lp_X0_real (d := d) (M := M) k e (fb k (nd s c r)) s c h0 (by omega) e 0 (((rmK k - t : Nat) : Int) - 52 + (-3)) (by omega) (by omega) (by omega)
    rw [show ((rmK k - t : Nat) : Int) - 52 + (-3) + (e : Int) = r by omega] at q
    exact q
