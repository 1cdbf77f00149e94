-- ROUNDING
theorem lead1 {n : Nat} (h : 0 < n) : FP.Core.leading n 1 = (n.log2 : Int) := by
  have h1 := Nat.log2_self_le (n := n) (by omega)
  have e0 : Nat.log2 1 = 0 := by decide
  unfold FP.Core.leading
  show (if 1 * 2 ^ ((n.log2 : Int) - ((Nat.log2 1 : Nat) : Int)).toNat ≤ n * 2 ^ (-((n.log2 : Int) - ((Nat.log2 1 : Nat) : Int))).toNat then ((n.log2 : Int) - ((Nat.log2 1 : Nat) : Int)) else ((n.log2 : Int) - ((Nat.log2 1 : Nat) : Int)) - 1) = _
  rw [e0, show ((n.log2 : Int) - ((0 : Nat) : Int)) = (n.log2 : Int) by omega, show ((n.log2 : Int)).toNat = n.log2 by omega, show (-(n.log2 : Int)).toNat = 0 by omega, if_pos (by omega)]
theorem rnd_any {f : FP.Core.Fmt} (hf : FP.Core.Good f) {s : Bool} {n : Nat} {q : Int} (h0 : 0 < n) (h1 : f.qmin + f.p ≤ q) (h2 : q + n.log2 + 2 ≤ f.qmax) : ∃ c r, FP.Core.round f (.fin s n q) = .fin s c r ∧ f.tails ≤ c ∧ c < 2 ^ f.p ∧ q - ((f.p : Int) - 1) ≤ r ∧ (r ≤ q + n.log2 - ((f.p : Int) - 1) ∨ (r = q + n.log2 - ((f.p : Int) - 1) + 1 ∧ c = f.tails)) ∧ (q ≤ r ∨ c = n * 2 ^ (q - r).toNat) := by
  have hp : 2 ≤ f.p := hf.2
  have ht := FP.Core.two_tails hf
  have htd : f.tails = 2 ^ (f.p - 1) := rfl
  have l1 := Nat.log2_self_le (n := n) (by omega)
  have l2 := Nat.lt_log2_self (n := n)
  have htp := FP.Core.tails_pos f
  by_cases g : n < 2 ^ f.p
  · have hL : n.log2 < f.p := (Nat.log2_lt (by omega)).mpr g
    have c1 : n * 2 ^ (f.p - 1 - n.log2) < 2 ^ f.p := by
      have e : 2 ^ f.p = 2 ^ (n.log2 + 1) * 2 ^ (f.p - 1 - n.log2) := by rw [← Nat.pow_add, show n.log2 + 1 + (f.p - 1 - n.log2) = f.p by omega]
      rw [e]
      exact Nat.mul_lt_mul_of_pos_right l2 (Nat.two_pow_pos _)
    have c2 : f.tails ≤ n * 2 ^ (f.p - 1 - n.log2) := by
      have e : f.tails = 2 ^ n.log2 * 2 ^ (f.p - 1 - n.log2) := by rw [htd, ← Nat.pow_add, show n.log2 + (f.p - 1 - n.log2) = f.p - 1 by omega]
      rw [e]
      exact Nat.mul_le_mul_right _ l1
    refine ⟨n * 2 ^ (f.p - 1 - n.log2), q - ((f.p - 1 - n.log2 : Nat) : Int), ?_, c2, c1, by omega, Or.inl (by omega), Or.inr ?_⟩
    · refine FP.Core.roundRatio_exact hf (by decide) ⟨c1, by omega, by omega, Or.inr c2⟩ ?_
      rw [show (q - (q - ((f.p - 1 - n.log2 : Nat) : Int))).toNat = f.p - 1 - n.log2 by omega, show (q - ((f.p - 1 - n.log2 : Nat) : Int) - q).toNat = 0 by omega, Nat.pow_zero, Nat.mul_one, Nat.mul_one]
    · rw [show (q - (q - ((f.p - 1 - n.log2 : Nat) : Int))).toNat = f.p - 1 - n.log2 by omega]
  · have hL : f.p ≤ n.log2 := by
      rcases Nat.lt_or_ge n.log2 f.p with z | z
      · exact absurd ((Nat.log2_lt (by omega)).mp z) g
      · exact z
    have hQ : FP.Core.quantum f n 1 q = (n.log2 : Int) + q - ((f.p : Int) - 1) := by
      unfold FP.Core.quantum
      rw [lead1 h0]
      omega
    have hr : FP.Core.round f (.fin s n q) = FP.Core.settle f s (FP.Core.nearest n (2 ^ (n.log2 - (f.p - 1)))) ((n.log2 : Int) + q - ((f.p : Int) - 1)) := by
      show FP.Core.roundRatio f s n 1 q = _
      unfold FP.Core.roundRatio
      rw [if_neg (by omega), hQ]
      unfold FP.Core.roundAt FP.Core.unitsNum FP.Core.unitsDen
      rw [show (q - ((n.log2 : Int) + q - ((f.p : Int) - 1))).toNat = 0 by omega, show ((n.log2 : Int) + q - ((f.p : Int) - 1) - q).toNat = n.log2 - (f.p - 1) by omega, Nat.pow_zero, Nat.mul_one, Nat.one_mul]
    have hj := Nat.two_pow_pos (n.log2 - (f.p - 1))
    have n1 : f.tails ≤ FP.Core.nearest n (2 ^ (n.log2 - (f.p - 1))) := by
      refine FP.Core.nearest_ge hj ?_
      rw [htd, ← Nat.pow_add, show f.p - 1 + (n.log2 - (f.p - 1)) = n.log2 by omega]
      exact l1
    have n2 : FP.Core.nearest n (2 ^ (n.log2 - (f.p - 1))) ≤ 2 ^ f.p := by
      refine FP.Core.nearest_le hj ?_
      rw [← Nat.pow_add, show f.p + (n.log2 - (f.p - 1)) = n.log2 + 1 by omega]
      omega
    rw [hr]
    generalize FP.Core.nearest n (2 ^ (n.log2 - (f.p - 1))) = m at n1 n2
    unfold FP.Core.settle FP.Core.bound
    by_cases z : m < 2 ^ f.p
    · rw [if_pos z, if_pos (by omega)]
      exact ⟨m, _, rfl, n1, z, by omega, Or.inl (by omega), Or.inl (by omega)⟩
    · rw [if_neg z, if_pos (by omega)]
      exact ⟨f.tails, _, rfl, Nat.le_refl _, by omega, by omega, Or.inr ⟨by omega, rfl⟩, Or.inl (by omega)⟩
theorem of_v {v : Int64} (hv : ¬ v = 0) : ∃ s n, FP.Core.ofInt v.toInt = .fin s n 0 ∧ 0 < n ∧ (n < 2 ^ 63 ∨ v = -9223372036854775808) := by
  have h1 := Int64.le_toInt v
  have h2 := Int64.toInt_lt v
  have hne : v.toInt ≠ 0 := fun z => hv (Int64.toInt_inj.mp z)
  refine ⟨_, _, rfl, by omega, ?_⟩
  by_cases c : v.toInt = -9223372036854775808
  · exact Or.inr (Int64.toInt_inj.mp c)
  · refine Or.inl ?_
    show v.toInt.natAbs < 9223372036854775808
    omega
theorem l2d_any {v : Int64} (hv : ¬ v = 0) : ∃ s c r, FP.l2d v = nd s c r ∧ 2 ^ 52 ≤ c ∧ c < 2 ^ 53 ∧ -52 ≤ r ∧ (r ≤ 10 ∨ (r = 11 ∧ c = 2 ^ 52)) ∧ (r < 0 → c % 2 ^ (-r).toNat = 0) := by
  obtain ⟨s, n, e1, e2, e3⟩ := of_v hv
  rcases e3 with e3 | e3
  · have hL : n.log2 < 63 := (Nat.log2_lt (by omega)).mpr e3
    obtain ⟨c, r, g1, g2, g3, g4, g5, g6⟩ := rnd_any FP.Core.good_b64 (s := s) (n := n) (q := 0) e2 (by rw [q64.1]; decide) (by rw [q64.2]; omega)
    have g4 : (0 : Int) - ((53 : Nat) - 1) ≤ r := g4
    have g5 : r ≤ 0 + (n.log2 : Int) - (((53 : Nat) : Int) - 1) ∨ (r = 0 + (n.log2 : Int) - (((53 : Nat) : Int) - 1) + 1 ∧ c = 2 ^ 52) := g5
    refine ⟨s, c, r, nd_of ?_, g2, g3, by omega, ?_, fun z => ?_⟩
    · show FP.Core.val64 (FP.Core.l2d v) = _
      rw [FP.Core.val64_l2d, e1, g1]
    · rcases g5 with g5 | ⟨g5, g7⟩
      · exact Or.inl (by omega)
      · by_cases y : r ≤ 10
        · exact Or.inl y
        · exact Or.inr ⟨by omega, g7⟩
    · rcases g6 with g6 | g6
      · omega
      · rw [g6, show ((0 : Int) - r).toNat = (-r).toNat by omega, Nat.mul_mod_left]
  · subst e3
    exact ⟨true, 2 ^ 52, 11, by decide +kernel, by decide, by decide, by decide, Or.inr ⟨rfl, rfl⟩, fun z => absurd z (by decide)⟩
theorem l2f_any {v : Int64} (hv : ¬ v = 0) : ∃ s c r, FP.l2f v = nf s c r ∧ 2 ^ 23 ≤ c ∧ c < 2 ^ 24 ∧ -23 ≤ r ∧ (r ≤ 39 ∨ (r = 40 ∧ c = 2 ^ 23)) ∧ (r < 0 → c % 2 ^ (-r).toNat = 0) := by
  obtain ⟨s, n, e1, e2, e3⟩ := of_v hv
  rcases e3 with e3 | e3
  · have hL : n.log2 < 63 := (Nat.log2_lt (by omega)).mpr e3
    obtain ⟨c, r, g1, g2, g3, g4, g5, g6⟩ := rnd_any FP.Core.good_b32 (s := s) (n := n) (q := 0) e2 (by rw [q32.1]; decide) (by rw [q32.2]; omega)
    have g4 : (0 : Int) - ((24 : Nat) - 1) ≤ r := g4
    have g5 : r ≤ 0 + (n.log2 : Int) - (((24 : Nat) : Int) - 1) ∨ (r = 0 + (n.log2 : Int) - (((24 : Nat) : Int) - 1) + 1 ∧ c = 2 ^ 23) := g5
    refine ⟨s, c, r, nf_of ?_, g2, g3, by omega, ?_, fun z => ?_⟩
    · show FP.Core.val32 (FP.Core.l2f v) = _
      rw [FP.Core.val32_l2f, e1, g1]
    · rcases g5 with g5 | ⟨g5, g7⟩
      · exact Or.inl (by omega)
      · by_cases y : r ≤ 39
        · exact Or.inl y
        · exact Or.inr ⟨by omega, g7⟩
    · rcases g6 with g6 | g6
      · omega
      · rw [g6, show ((0 : Int) - r).toNat = (-r).toNat by omega, Nat.mul_mod_left]
  · subst e3
    exact ⟨true, 2 ^ 23, 40, by decide +kernel, by decide, by decide, by decide, Or.inr ⟨rfl, rfl⟩, fun z => absurd z (by decide)⟩
theorem fmul_p {s : Bool} {c : Nat} {r : Int} {b : UInt32} (k : Int) (h : nrf c r) (h' : nrf c (r + k)) (hb : FP.Core.val32 b = .fin false (2 ^ 23) (k - 23)) : FP.fmul (nf s c r) b = nf s c (r + k) := by
  apply nf_of
  show FP.Core.val32 (FP.Core.fmul (nf s c r) b) = _
  rw [FP.Core.val32_fmul, h.val, hb]
  show FP.Core.round FP.Core.b32 (.fin (s != false) (c * 2 ^ 23) (r + (k - 23))) = _
  rw [bxf]
  refine rnf_ex h' ?_
  rw [show (r + (k - 23) - (r + k)).toNat = 0 by omega, show (r + k - (r + (k - 23))).toNat = 23 by omega, Nat.pow_zero, Nat.mul_one]
theorem kef : FP.Core.val32 1040187392 = .fin false (2 ^ 23) ((-3) - 23) := by decide +kernel
theorem nrf_nrm {c : Nat} {r : Int} (h : nrf c r) : nrm (c * 2 ^ 29) (r - 29) := by
  obtain ⟨h1, h2, h3, h4⟩ := h
  refine ⟨?_, ?_, by omega, by omega⟩
  · show 4503599627370496 ≤ c * 536870912; omega
  · show c * 536870912 < 9007199254740992; omega
theorem f2d_nf {s : Bool} {c : Nat} {r : Int} (h : nrf c r) : FP.f2d (nf s c r) = nd s (c * 2 ^ 29) (r - 29) := by
  have hv := h.val s
  have hn : FP.fIsNaN (nf s c r) = false := by
    cases z : FP.fIsNaN (nf s c r) with
    | false => rfl
    | true =>
      have := (FP.Core.fIsNaN_iff _).mp z
      rw [hv] at this
      cases this
  rw [FP.f2d_core hn]
  apply nd_of
  rw [FP.Core.val64_f2d, hv]
  refine rnd_ex (nrf_nrm h) ?_
  rw [show (r - (r - 29)).toNat = 29 by omega, show (r - 29 - r).toNat = 0 by omega, Nat.pow_zero, Nat.mul_one]
theorem d2f_nd {s : Bool} {c : Nat} {r : Int} (h : nrf c r) : FP.d2f (nd s (c * 2 ^ 29) (r - 29)) = nf s c r := by
  have hv := (nrf_nrm h).val s
  have hn : FP.dIsNaN (nd s (c * 2 ^ 29) (r - 29)) = false := by
    cases z : FP.dIsNaN (nd s (c * 2 ^ 29) (r - 29)) with
    | false => rfl
    | true =>
      have := (FP.Core.dIsNaN_iff _).mp z
      rw [hv] at this
      cases this
  rw [FP.d2f_core hn]
  apply nf_of
  rw [FP.Core.val32_d2f, hv]
  refine rnf_ex h ?_
  rw [show (r - 29 - r).toNat = 0 by omega, show (r - (r - 29)).toNat = 29 by omega, Nat.pow_zero, Nat.mul_one]
theorem smD_nd {s : Bool} {c : Nat} {r : Int} (h : nrm c r) (hs : r ≤ 10 ∨ (r = 11 ∧ c = 2 ^ 52)) : smD (nd s c r) := by
  intro s' c' r' e
  rw [h.val s] at e
  cases e
  exact Or.inr hs
/-- a float, seen as a double -/
theorem okD_f {c : Nat} {r : Int} (h1 : 2 ^ 23 ≤ c) (h2 : c < 2 ^ 24) (h3 : -26 ≤ r) (h4 : r ≤ 69) (h5 : r < -3 → c % 2 ^ (-3 - r).toNat = 0) : okD 6 (c * 2 ^ 29) (r - 29) := by
  obtain ⟨g1, g2, -⟩ := nrf_nrm (c := c) (r := 0) ⟨h1, h2, by decide, by decide⟩
  refine ⟨g1, g2, by omega, by omega, fun z => ?_, fun _ => Nat.mul_mod_left _ _⟩
  by_cases q : r < -3
  · have := h5 q
    rw [show (-3 - (r - 29)).toNat = (-3 - r).toNat + 29 by omega, Nat.pow_add, Nat.mul_mod_mul_right, this, Nat.zero_mul]
  · have e : 2 ^ 29 = 2 ^ (29 - (-3 - (r - 29)).toNat) * 2 ^ (-3 - (r - 29)).toNat := by rw [← Nat.pow_add, show 29 - (-3 - (r - 29)).toNat + (-3 - (r - 29)).toNat = 29 by omega]
    rw [e, ← Nat.mul_assoc, Nat.mul_mod_left]
theorem mod_le {c a b : Nat} (h : c % 2 ^ b = 0) (hab : a ≤ b) : c % 2 ^ a = 0 := by
  have : 2 ^ a ∣ 2 ^ b := Nat.pow_dvd_pow 2 hab
  exact Nat.mod_eq_zero_of_dvd (Nat.dvd_trans this (Nat.dvd_of_mod_eq_zero h))
theorem wd7 (v : Int64) : isD 7 (FP.l2d v) ∧ smD (FP.l2d v) := by
  by_cases hv : v = 0
  · subst hv
    rw [l2d_0]
    exact ⟨Or.inl rfl, smD_0⟩
  · obtain ⟨s, c, r, e, h1, h2, h3, h4, h5⟩ := l2d_any hv
    rw [e]
    refine ⟨Or.inr ⟨s, c, r, ⟨h1, h2, by omega, by omega, fun z => mod_le (h5 (by omega)) (by omega), fun z => absurd z (by decide)⟩, rfl⟩, smD_nd ⟨h1, h2, by omega, by omega⟩ h4⟩
theorem gv7 (v : Int64) : isD 7 (FP.dmul (FP.l2d v) 4593671619917905920) ∧ smD (FP.dmul (FP.l2d v) 4593671619917905920) ∧ vf_n64 (FP.dmul (FP.l2d v) 4593671619917905920) := by
  by_cases hv : v = 0
  · subst hv
    rw [l2d_0, m0_e]
    exact ⟨Or.inl rfl, smD_0, n64_0⟩
  · obtain ⟨s, c, r, e, h1, h2, h3, h4, h5⟩ := l2d_any hv
    have hn : nrm c r := ⟨h1, h2, by omega, by omega⟩
    have hn' : nrm c (r + (-3)) := ⟨h1, h2, by omega, by omega⟩
    rw [e, dmul_p (-3) hn hn' ke]
    refine ⟨Or.inr ⟨s, c, r + (-3), ⟨h1, h2, by omega, by omega, fun z => mod_le (h5 (by omega)) (by omega), fun z => absurd z (by decide)⟩, rfl⟩, smD_nd hn' (by omega), hn'.n s⟩
theorem l2f_0 : FP.l2f 0 = FP.fconst0 ∧ FP.f2d FP.fconst0 = FP.dconst0 ∧ FP.fmul FP.fconst0 1040187392 = FP.fconst0 ∧ vf_n32 FP.fconst0 := by
  refine ⟨by decide +kernel, by decide +kernel, by decide +kernel, ?_⟩
  unfold vf_n32
  decide +kernel
theorem wd6 (v : Int64) : isD 6 (FP.f2d (FP.l2f v)) ∧ smD (FP.f2d (FP.l2f v)) ∧ vf_n64 (FP.f2d (FP.l2f v)) := by
  by_cases hv : v = 0
  · subst hv
    rw [l2f_0.1, l2f_0.2.1]
    exact ⟨Or.inl rfl, smD_0, n64_0⟩
  · obtain ⟨s, c, r, e, h1, h2, h3, h4, h5⟩ := l2f_any hv
    have hn : nrf c r := ⟨h1, h2, by omega, by omega⟩
    rw [e, f2d_nf hn]
    refine ⟨Or.inr ⟨s, _, _, okD_f h1 h2 (by omega) (by omega) (fun z => mod_le (h5 (by omega)) (by omega)), rfl⟩, smD_nd (nrf_nrm hn) ?_, (nrf_nrm hn).n s⟩
    rcases h4 with h4 | ⟨h4, h6⟩
    · exact Or.inl (by omega)
    · exact Or.inr ⟨by omega, by rw [h6]⟩
theorem gv6 (v : Int64) : isD 6 (FP.f2d (FP.fmul (FP.l2f v) 1040187392)) ∧ smD (FP.f2d (FP.fmul (FP.l2f v) 1040187392)) ∧ vf_n64 (FP.f2d (FP.fmul (FP.l2f v) 1040187392)) ∧ vf_n32 (FP.fmul (FP.l2f v) 1040187392) := by
  by_cases hv : v = 0
  · subst hv
    rw [l2f_0.1, l2f_0.2.2.1, l2f_0.2.1]
    exact ⟨Or.inl rfl, smD_0, n64_0, l2f_0.2.2.2⟩
  · obtain ⟨s, c, r, e, h1, h2, h3, h4, h5⟩ := l2f_any hv
    have hn : nrf c r := ⟨h1, h2, by omega, by omega⟩
    have hn' : nrf c (r + (-3)) := ⟨h1, h2, by omega, by omega⟩
    rw [e, fmul_p (-3) hn hn' kef, f2d_nf hn']
    refine ⟨Or.inr ⟨s, _, _, okD_f h1 h2 (by omega) (by omega) (fun z => mod_le (h5 (by omega)) (by omega)), rfl⟩, smD_nd (nrf_nrm hn') (by omega), (nrf_nrm hn').n s, hn'.n s⟩
