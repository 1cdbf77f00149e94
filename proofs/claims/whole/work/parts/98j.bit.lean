-- THE BITS OF A FLOAT OR DOUBLE, AS A NUMBER
theorem nI_sb {a b : Nat} (h : b ≤ a) : nI a - nI b = nI (a - b) := by
  have e : nI a = nI (a - b) + nI b := by rw [nI_add]; congr 1; omega
  rw [e, Int32.add_sub_cancel]
theorem lN_ad (a b : Nat) : lN a + lN b = lN (a + b) := (Int64.ofNat_add a b).symm
theorem lN_sb {a b : Nat} (h : b ≤ a) : lN a - lN b = lN (a - b) := by
  have e : lN a = lN (a - b) + lN b := by rw [lN_ad]; congr 1; omega
  rw [e, Int64.add_sub_cancel]
theorem or_core {R p b E F : Nat} (hR : R < p) (hp : p < 64) (h1 : E * 2 ^ R + 2 ^ R ≤ 2 ^ p) (h2 : F < 2 ^ R) (h3 : (b + 1) * 2 ^ p ≤ 2 ^ 64) : (lN (b * 2 ^ p) ||| lN (E * 2 ^ R)) ||| lN F = lN (b * 2 ^ p + E * 2 ^ R + F) := by
  have h4 : b * 2 ^ p + 2 ^ p ≤ 2 ^ 64 := by rw [Nat.add_mul, Nat.one_mul] at h3; exact h3
  have hpos := Nat.two_pow_pos R
  rw [g_or (k := p) rfl (by omega) (by omega)]
  have e : b * 2 ^ p + E * 2 ^ R = (b * 2 ^ (p - R) + E) * 2 ^ R := by
    rw [Nat.add_mul, Nat.mul_assoc, ← Nat.pow_add]
    congr 3
    omega
  rw [e, g_or (k := R) rfl h2 (by rw [← e]; omega)]
theorem sc_core {R B p b n e : Nat} (hn : 0 < n) (hn2 : n < 2 ^ (R + 1)) (hR : R < p) (hR2 : R ≤ 52) (hp : p < 64) (hB : 3 ≤ B) (hB2 : B ≤ 1023) (he : e ≤ 200) (h1 : (e + n.log2 + B - 3) * 2 ^ R + 2 ^ R ≤ 2 ^ p) (h3 : (b + 1) * 2 ^ p ≤ 2 ^ 64) :
    (lN (b * 2 ^ p) ||| ((Int32.toInt64 (((nI e - 3) + (63 - (sJ13_nlz (lN n)))) + nI B)) <<< ((nI R).toInt64 &&& 63))) ||| ((lN n <<< ((Int32.toInt64 (nI R - (63 - (sJ13_nlz (lN n))))) &&& 63)) - ((1 : Int64) <<< ((nI R).toInt64 &&& 63))) = lN (b * 2 ^ p + (e + n.log2 + B - 3) * 2 ^ R + (n * 2 ^ (R - n.log2) - 2 ^ R)) := by
  have l1 := Nat.log2_self_le (n := n) (by omega)
  have l2 := Nat.lt_log2_self (n := n)
  have hL : n.log2 ≤ R := by
    have := (Nat.log2_lt (by omega : n ≠ 0)).mpr hn2
    omega
  have hn63 : n < 2 ^ 63 := Nat.lt_of_lt_of_le hn2 (Nat.pow_le_pow_right (by decide) (by omega))
  rw [nlzL_N hn hn63]
  have e1 : (63 : Int32) - nI (63 - n.log2) = nI n.log2 := by
    show nI 63 - nI (63 - n.log2) = _
    rw [nI_sb (by omega)]
    congr 1
    omega
  have e2 : ((nI e - 3) + nI n.log2) + nI B = nI (e + n.log2 + B - 3) := by
    have q : ((nI e - 3) + nI n.log2) + nI B = nI e + nI n.log2 + (nI B - 3) := by
      rw [Int32.sub_eq_add_neg, Int32.sub_eq_add_neg]
      ac_rfl
    rw [q, show nI B - 3 = nI (B - 3) from nI_sb (b := 3) hB, nI_add, nI_add]
    congr 1
    omega
  rw [e1, e2, nI_sb hL, nIL (by omega), wb_shl _ (by omega), wb_shl _ (by omega), show (1 : Int64) <<< ((nI R).toInt64 &&& 63) = lN (2 ^ R) by
    have := wb_shl 1 (k := R) (by omega)
    rw [Nat.one_mul] at this
    exact this]
  have e3 : 2 ^ R ≤ n * 2 ^ (R - n.log2) := by
    have : 2 ^ R = 2 ^ n.log2 * 2 ^ (R - n.log2) := by rw [← Nat.pow_add]; congr 1; omega
    rw [this]
    exact Nat.mul_le_mul_right _ l1
  have e4 : n * 2 ^ (R - n.log2) < 2 ^ R * 2 := by
    have : 2 ^ R * 2 = 2 ^ (n.log2 + 1) * 2 ^ (R - n.log2) := by rw [← Nat.pow_succ, ← Nat.pow_add]; congr 1; omega
    rw [this]
    exact Nat.mul_lt_mul_of_pos_right l2 (Nat.two_pow_pos _)
  rw [lN_sb e3]
  exact or_core hR hp h1 (by omega) h3
theorem neg_lN {n : Nat} : Int64.ofInt (-(n : Int)) = -(lN n) := by
  rw [Int64.ofInt_neg]
  rfl
theorem lN_lt0 {n : Nat} (h : n < 2 ^ 63) : (0 : Int64) ≤ lN n := by
  rw [Int64.le_iff_toInt_le, pk_lT h]
  show (0 : Int) ≤ _
  omega
theorem lN_n0 {n : Nat} (h0 : 0 < n) (h : n < 2 ^ 63) : ¬ lN n = 0 ∧ ¬ -(lN n) = (0 : Int64) ∧ ¬ (0 : Int64) ≤ -(lN n) := by
  have e := pk_lT h
  have e0 : (0 : Int64).toInt = 0 := rfl
  have h1 : ¬ lN n = 0 := fun z => by
    have := congrArg Int64.toInt z
    rw [e, e0] at this
    omega
  have h2 : (-(lN n)).toInt = -(n : Int) := by
    rw [Int64.toInt_neg, e, Int.bmod_eq_of_le (by omega) (by omega)]
  refine ⟨h1, fun z => ?_, fun z => ?_⟩
  · have := congrArg Int64.toInt z
    rw [h2, e0] at this
    omega
  · have := Int64.le_iff_toInt_le.mp z
    rw [h2, e0] at this
    omega
theorem sc_of {k : Nat} (hk : k = 6 ∨ k = 7) (s : Bool) {n e : Nat} (hn : 0 < n) (hn2 : n < 2 ^ (rmK k + 1)) (he : e ≤ 100) : sX0_scaledBits (nI k) (Int64.ofInt (FP.Core.signed s n)) (nI e) = lN (fbN k s (n * 2 ^ (rmK k - n.log2)) (e + n.log2 + bsK k - 3)) := by
  have hn63 : n < 2 ^ 53 := Nat.lt_of_lt_of_le hn2 (Nat.pow_le_pow_right (by decide) (by rcases hk with rfl | rfl <;> decide))
  have hL : n.log2 < rmK k + 1 := (Nat.log2_lt (by omega : n ≠ 0)).mpr hn2
  obtain ⟨q1, q2, q3⟩ := lN_n0 hn (by omega)
  unfold sX0_scaledBits fbN
  cases s
  · rw [show Int64.ofInt (FP.Core.signed false n) = lN n from rfl, if_neg q1, if_pos (lN_lt0 (by omega))]
    rcases hk with rfl | rfl
    · rw [if_pos (show nI 6 = 6 from rfl)]
      have hL : n.log2 < 24 := hL
      exact sc_core (R := 23) (B := 127) (p := 31) (b := 0) hn hn2 (by decide) (by decide) (by decide) (by decide) (by decide) (by omega) (show (e + n.log2 + 127 - 3) * 8388608 + 8388608 ≤ 2147483648 by omega) (by decide)
    · rw [if_neg (by decide)]
      have hL : n.log2 < 53 := hL
      exact sc_core (R := 52) (B := 1023) (p := 63) (b := 0) hn hn2 (by decide) (by decide) (by decide) (by decide) (by decide) (by omega) (show (e + n.log2 + 1023 - 3) * 4503599627370496 + 4503599627370496 ≤ 9223372036854775808 by omega) (by decide)
  · rw [show Int64.ofInt (FP.Core.signed true n) = -(lN n) from neg_lN, if_neg q2, if_neg q3, Int64.neg_neg]
    rcases hk with rfl | rfl
    · rw [if_pos (show nI 6 = 6 from rfl)]
      have hL : n.log2 < 24 := hL
      have := sc_core (R := 23) (B := 127) (p := 31) (b := 2 ^ 33 - 1) hn hn2 (by decide) (by decide) (by decide) (by decide) (by decide) (e := e) (by omega) (show (e + n.log2 + 127 - 3) * 8388608 + 8388608 ≤ 2147483648 by omega) (by decide)
      rw [show lN ((2 ^ 33 - 1) * 2 ^ 31) = (-1 : Int64) <<< ((Int32.toInt64 31) &&& 63) by decide +kernel] at this
      exact this
    · rw [if_neg (by decide)]
      have hL : n.log2 < 53 := hL
      have := sc_core (R := 52) (B := 1023) (p := 63) (b := 1) hn hn2 (by decide) (by decide) (by decide) (by decide) (by decide) (e := e) (by omega) (show (e + n.log2 + 1023 - 3) * 4503599627370496 + 4503599627370496 ≤ 9223372036854775808 by omega) (by decide)
      rw [show lN (1 * 2 ^ 63) = (-1 : Int64) <<< ((Int32.toInt64 63) &&& 63) by decide +kernel] at this
      exact this
-- what stands in the bits
theorem od_core {R X c b t : Nat} (hR : R ≤ 52) (hX : X < 2 ^ 64) (hm : X % 2 ^ R = c - 2 ^ R) (hc : 2 ^ R ≤ c) (hc2 : c < 2 ^ (R + 1)) (hb : c = (2 * b + 1) * 2 ^ t) (ht : t ≤ R) :
    ((lN X &&& (((1 : Int64) <<< ((nI R).toInt64 &&& 63)) - (1 : Int64))) ||| ((1 : Int64) <<< ((nI R).toInt64 &&& 63))) >>> ((Int32.toInt64 (sJ13_ntz ((lN X &&& (((1 : Int64) <<< ((nI R).toInt64 &&& 63)) - (1 : Int64))) ||| ((1 : Int64) <<< ((nI R).toInt64 &&& 63))))) &&& 63) = lN (2 * b + 1) := by
  have hpos := Nat.two_pow_pos R
  have e1 : (1 : Int64) <<< ((nI R).toInt64 &&& 63) = lN (2 ^ R) := by
    have := wb_shl 1 (k := R) (by omega)
    rw [Nat.one_mul] at this
    exact this
  have e2 : lN (2 ^ R) - (1 : Int64) = lN (2 ^ R - 1) := lN_sb (b := 1) hpos
  have hb52 : 2 ^ (R + 1) ≤ 2 ^ 53 := Nat.pow_le_pow_right (by decide) (by omega)
  rw [Nat.pow_succ] at hc2
  have e3 : (lN X &&& lN (2 ^ R - 1)) ||| lN (2 ^ R) = lN c := by
    rw [wb_mask hX (by omega), hm]
    have := g_or' (k := R) (p := 2 ^ R) (a := c - 2 ^ R) (b := 1) rfl (by omega) (by omega)
    rw [Nat.one_mul] at this
    rw [this]
    congr 1
    omega
  rw [e1, e2, e3, ntzL_N (t := t) (by omega) hb (by omega), wb_c t (by omega)]
  have e4 : ((lN t).toBitVec.smod 64).toNat = t := by
    rw [wb_tb, wb_sm t (by omega), BitVec.toNat_ofNat, Nat.mod_eq_of_lt (by omega)]
  rw [pf_shr e4 (by omega)]
  congr 1
  rw [hb, Nat.mul_div_cancel _ (Nat.two_pow_pos t)]
theorem pw_t {R Y b t c : Nat} (hc : 2 ^ R ≤ c) (hb : c = (2 * b + 1) * 2 ^ t) (ht : t < R) : ∃ b', (c - 2 ^ R) + Y * 2 ^ R = (2 * b' + 1) * 2 ^ t := by
  have e : 2 ^ R = 2 ^ (R - t - 1) * 2 * 2 ^ t := by rw [← Nat.pow_succ, ← Nat.pow_add]; congr 1; omega
  have h1 : 2 ^ (R - t - 1) * 2 ≤ 2 * b + 1 := by
    rw [e, hb] at hc
    exact Nat.le_of_mul_le_mul_right hc (Nat.two_pow_pos t)
  refine ⟨b - 2 ^ (R - t - 1) + Y * 2 ^ (R - t - 1), ?_⟩
  rw [hb, e, ← Nat.sub_mul, ← Nat.mul_assoc, ← Nat.add_mul]
  congr 1
  have : Y * (2 ^ (R - t - 1) * 2) = 2 * (Y * 2 ^ (R - t - 1)) := by rw [← Nat.mul_assoc, Nat.mul_comm]
  omega
theorem min_ntz {R X W c b t : Nat} (hR : R ≤ 52) (hX : X < 2 ^ 64) (hW : 0 < W) (hx : X = W * 2 ^ R + (c - 2 ^ R)) (hc : 2 ^ R ≤ c) (hc2 : c < 2 ^ (R + 1)) (hb : c = (2 * b + 1) * 2 ^ t) (ht : t ≤ R) : (if nI R < sJ13_ntz (lN X) then nI R else sJ13_ntz (lN X)) = nI t := by
  by_cases g : t < R
  · obtain ⟨b', h⟩ := pw_t (Y := W) hc hb g
    rw [ntzL_N (b := b') (t := t) (by omega) (by rw [← h, hx, Nat.add_comm]) hX, if_neg (fun z => by have := (L32 (by omega) (by omega)).mp z; omega)]
  · have e : t = R := by omega
    subst e
    have hb0 : b = 0 := by
      rw [hb, Nat.pow_succ, Nat.mul_comm (2 ^ t)] at hc2
      have := Nat.lt_of_mul_lt_mul_right hc2
      omega
    subst hb0
    have hcc : c = 2 ^ t := by rw [hb]; omega
    subst hcc
    have hX2 : X = W * 2 ^ t := by rw [hx]; omega
    have hpos := Nat.two_pow_pos t
    have hW2 : W < 2 ^ (64 - t) := by
      have e : 2 ^ 64 = 2 ^ (64 - t) * 2 ^ t := by rw [← Nat.pow_add]; congr 1; omega
      rw [hX2, e] at hX
      exact Nat.lt_of_mul_lt_mul_right hX
    obtain ⟨b', t', h1, h2⟩ := odd_ex (64 - t) W hW hW2
    rw [ntzL_N (b := b') (t := t + t') (by omega) (by rw [hX2, h2, Nat.mul_assoc, ← Nat.pow_add, Nat.add_comm t']) hX]
    by_cases z : t' = 0
    · subst z
      rw [Nat.add_zero]
      split <;> rfl
    · rw [if_pos ((L32 (by omega) (by omega)).mpr (by omega))]
theorem sshr_mask {X R w : Nat} (hX : X < 2 ^ 64) (hR : R + w ≤ 64) (hR2 : R < 64) : (lN X >>> ((nI R).toInt64 &&& 63)) &&& lN (2 ^ w - 1) = lN (X / 2 ^ R % 2 ^ w) := by
  apply Int64.toBitVec_inj.mp
  rw [Int64.toBitVec_and, Int64.toBitVec_shiftRight, wb_c R hR2, wb_tb, wb_tb, wb_tb, wb_tb]
  show ((BitVec.ofNat 64 X).sshiftRight ((BitVec.ofNat 64 R).smod 64).toNat) &&& _ = _
  rw [wb_sm R hR2, BitVec.toNat_ofNat, Nat.mod_eq_of_lt (show R < 2 ^ 64 by omega)]
  apply BitVec.eq_of_getLsbD_eq
  intro i hi
  rw [BitVec.getLsbD_and, BitVec.getLsbD_sshiftRight, BitVec.getLsbD_ofNat, BitVec.getLsbD_ofNat, BitVec.getLsbD_ofNat, Nat.testBit_two_pow_sub_one, Nat.testBit_mod_two_pow, Nat.testBit_div_two_pow, decide_eq_true hi]
  by_cases c : i < w
  · rw [if_pos (by omega), decide_eq_true c, decide_eq_true (by omega : R + i < 64), Nat.add_comm R i]
    simp [Nat.not_le.mpr hi]
  · rw [decide_eq_false c]
    simp
theorem fb_lt {k : Nat} (hk : k = 6 ∨ k = 7) (s : Bool) {c E : Nat} (hc : 2 ^ rmK k ≤ c) (hc2 : c < 2 ^ (rmK k + 1)) (hE : E * 2 ^ rmK k + 2 ^ rmK k ≤ 2 ^ tpK k) : fbN k s c E < 2 ^ 64 ∧ (s = false → fbN k s c E < 2 ^ 63) ∧ (s = true → 2 ^ 63 ≤ fbN k s c E) ∧ fbN k s c E % 2 ^ rmK k = c - 2 ^ rmK k ∧ ∃ W, fbN k s c E = (W + E) * 2 ^ rmK k + (c - 2 ^ rmK k) ∧ (W + E) % (2 ^ (tpK k - rmK k)) = E % (2 ^ (tpK k - rmK k)) := by
  unfold fbN
  rcases hk with rfl | rfl
  · have hc : 8388608 ≤ c := hc
    have hc2 : c < 16777216 := hc2
    have hE : E * 8388608 + 8388608 ≤ 2147483648 := hE
    cases s
    · show 0 * 2147483648 + E * 8388608 + (c - 8388608) < 18446744073709551616 ∧ _ ∧ _ ∧ (0 * 2147483648 + E * 8388608 + (c - 8388608)) % 8388608 = c - 8388608 ∧ _
      refine ⟨by omega, fun _ => show 0 * 2147483648 + E * 8388608 + (c - 8388608) < 9223372036854775808 by omega, (fun z => by cases z), by omega, 0, show 0 * 2147483648 + E * 8388608 + (c - 8388608) = (0 + E) * 8388608 + (c - 8388608) by omega, by rw [Nat.zero_add]⟩
    · show 8589934591 * 2147483648 + E * 8388608 + (c - 8388608) < 18446744073709551616 ∧ _ ∧ _ ∧ (8589934591 * 2147483648 + E * 8388608 + (c - 8388608)) % 8388608 = c - 8388608 ∧ _
      refine ⟨by omega, (fun z => by cases z), fun _ => show 9223372036854775808 ≤ 8589934591 * 2147483648 + E * 8388608 + (c - 8388608) by omega, by omega, 8589934591 * 256, show 8589934591 * 2147483648 + E * 8388608 + (c - 8388608) = (8589934591 * 256 + E) * 8388608 + (c - 8388608) by omega, show (8589934591 * 256 + E) % 256 = E % 256 by omega⟩
  · have hc : 4503599627370496 ≤ c := hc
    have hc2 : c < 9007199254740992 := hc2
    have hE : E * 4503599627370496 + 4503599627370496 ≤ 9223372036854775808 := hE
    cases s
    · show 0 * 9223372036854775808 + E * 4503599627370496 + (c - 4503599627370496) < 18446744073709551616 ∧ _ ∧ _ ∧ (0 * 9223372036854775808 + E * 4503599627370496 + (c - 4503599627370496)) % 4503599627370496 = c - 4503599627370496 ∧ _
      refine ⟨by omega, fun _ => show 0 * 9223372036854775808 + E * 4503599627370496 + (c - 4503599627370496) < 9223372036854775808 by omega, (fun z => by cases z), by omega, 0, show 0 * 9223372036854775808 + E * 4503599627370496 + (c - 4503599627370496) = (0 + E) * 4503599627370496 + (c - 4503599627370496) by omega, by rw [Nat.zero_add]⟩
    · show 1 * 9223372036854775808 + E * 4503599627370496 + (c - 4503599627370496) < 18446744073709551616 ∧ _ ∧ _ ∧ (1 * 9223372036854775808 + E * 4503599627370496 + (c - 4503599627370496)) % 4503599627370496 = c - 4503599627370496 ∧ _
      refine ⟨by omega, (fun z => by cases z), fun _ => show 9223372036854775808 ≤ 1 * 9223372036854775808 + E * 4503599627370496 + (c - 4503599627370496) by omega, by omega, 2048, show 1 * 9223372036854775808 + E * 4503599627370496 + (c - 4503599627370496) = (2048 + E) * 4503599627370496 + (c - 4503599627370496) by omega, show (2048 + E) % 2048 = E % 2048 by omega⟩
theorem lN_ge {n : Nat} (h : 2 ^ 63 ≤ n) (h2 : n < 2 ^ 64) : (lN n).toInt = (n : Int) - 2 ^ 64 := by
  show (BitVec.ofNat 64 n).toInt = _
  rw [BitVec.toInt_eq_toNat_bmod, BitVec.toNat_ofNat, Int.bmod_def]
  omega
theorem lN_neg {n : Nat} (h : 2 ^ 63 ≤ n) (h2 : n < 2 ^ 64) : ¬ (0 : Int64) ≤ lN n := by
  intro z
  have := Int64.le_iff_toInt_le.mp z
  rw [lN_ge h h2] at this
  have e0 : (0 : Int64).toInt = 0 := rfl
  omega
theorem lN_nz {n : Nat} (h : 0 < n) (h2 : n < 2 ^ 64) : ¬ lN n = (0 : Int64) := by
  intro z
  have h1 : BitVec.ofNat 64 n = BitVec.ofNat 64 0 := congrArg Int64.toBitVec z
  have h3 := congrArg BitVec.toNat h1
  rw [BitVec.toNat_ofNat, BitVec.toNat_ofNat, Nat.mod_eq_of_lt h2] at h3
  omega
def okE (k c E : Nat) : Prop := 2 ^ rmK k ≤ c ∧ c < 2 ^ (rmK k + 1) ∧ 0 < E ∧ E * 2 ^ rmK k + 2 ^ rmK k ≤ 2 ^ tpK k
theorem fb_pos {k : Nat} (s : Bool) {c E : Nat} (h : okE k c E) : 0 < fbN k s c E := by
  obtain ⟨h1, h2, h3, h4⟩ := h
  unfold fbN
  have := Nat.mul_pos h3 (Nat.two_pow_pos (rmK k))
  omega
theorem fb_s {k : Nat} (hk : k = 6 ∨ k = 7) (s : Bool) {c E : Nat} (h : okE k c E) : ((0 : Int64) ≤ lN (fbN k s c E)) ↔ s = false := by
  obtain ⟨h1, h2, h3, h4⟩ := h
  obtain ⟨q1, q2, q3, -⟩ := fb_lt hk s h1 h2 h4
  cases s
  · exact ⟨fun _ => rfl, fun _ => lN_lt0 (q2 rfl)⟩
  · exact ⟨fun z => absurd z (lN_neg (q3 rfl) q1), fun z => by cases z⟩
theorem odd_of {k : Nat} (hk : k = 6 ∨ k = 7) (s : Bool) {c E b t : Nat} (h : okE k c E) (hb : c = (2 * b + 1) * 2 ^ t) (ht : t ≤ rmK k) : sX0_oddPart (nI k) (lN (fbN k s c E)) = Int64.ofInt (FP.Core.signed s (2 * b + 1)) := by
  have hs := fb_s hk s h
  have hp := fb_pos s h
  obtain ⟨h1, h2, h3, h4⟩ := h
  obtain ⟨q1, q2, q3, q4, -⟩ := fb_lt hk s h1 h2 h4
  unfold sX0_oddPart
  rw [if_neg (lN_nz hp q1)]
  rcases hk with rfl | rfl
  · have hcore := od_core (R := 23) (by decide) q1 q4 h1 h2 hb ht
    rw [if_pos (show nI 6 = 6 from rfl)]
    cases s
    · rw [if_pos (hs.mpr rfl)]
      exact hcore
    · rw [if_neg (fun z => by cases hs.mp z)]
      rw [show Int64.ofInt (FP.Core.signed true (2 * b + 1)) = -(lN (2 * b + 1)) from neg_lN, ← hcore]
      rfl
  · have hcore := od_core (R := 52) (by decide) q1 q4 h1 h2 hb ht
    rw [if_neg (by decide)]
    cases s
    · rw [if_pos (hs.mpr rfl)]
      exact hcore
    · rw [if_neg (fun z => by cases hs.mp z)]
      rw [show Int64.ofInt (FP.Core.signed true (2 * b + 1)) = -(lN (2 * b + 1)) from neg_lN, ← hcore]
      rfl
theorem pp_core {E B R t : Nat} (h : B + R ≤ E + 3 + t) (hE : E < 100000) : (((nI E - nI B) - nI R) + 3) + nI t = nI (E + 3 + t - B - R) := by
  have q : (((nI E - nI B) - nI R) + 3) + nI t = (nI E + nI 3 + nI t) - (nI B + nI R) := by
    show (((nI E - nI B) - nI R) + nI 3) + nI t = _
    simp only [Int32.sub_eq_add_neg, Int32.neg_add]
    ac_rfl
  rw [q, nI_add, nI_add, nI_add, nI_sb (by omega)]
  congr 1
  omega
theorem pow_of {k : Nat} (hk : k = 6 ∨ k = 7) (s : Bool) {c E b t : Nat} (h : okE k c E) (hb : c = (2 * b + 1) * 2 ^ t) (ht : t ≤ rmK k) (hr : bsK k + rmK k ≤ E + 3 + t) : sX0_powerPart (nI k) (lN (fbN k s c E)) = nI (E + 3 + t - bsK k - rmK k) := by
  have hp := fb_pos s h
  obtain ⟨h1, h2, h3, h4⟩ := h
  obtain ⟨q1, q2, q3, q4, W, q5, q6⟩ := fb_lt hk s h1 h2 h4
  unfold sX0_powerPart
  rw [if_neg (lN_nz hp q1)]
  generalize fbN k s c E = X at q1 q2 q3 q4 q5 hp ⊢
  rcases hk with rfl | rfl
  · rw [if_pos (show nI 6 = 6 from rfl)]
    have h1 : 8388608 ≤ c := h1
    have h2 : c < 16777216 := h2
    have h4 : E * 8388608 + 8388608 ≤ 2147483648 := h4
    have q5' : X = (W + E) * 8388608 + (c - 8388608) := q5
    have q6 : (W + E) % 256 = E % 256 := q6
    have e1 : Int64.toInt32 ((lN X >>> ((Int32.toInt64 23) &&& 63)) &&& (255 : Int64)) = nI E := by
      rw [show ((lN X >>> ((Int32.toInt64 23) &&& 63)) &&& (255 : Int64)) = lN (X / 2 ^ 23 % 2 ^ 8) from sshr_mask (R := 23) (w := 8) q1 (by decide) (by decide), l2i_N]
      congr 1
      show X / 8388608 % 256 = E
      omega
    have e2 := min_ntz (R := 23) (by decide) q1 (show 0 < W + E by omega) q5 h1 h2 hb ht
    rw [e1]
    have e3 : (if 23 < sJ13_ntz (lN X) then (23 : Int32) else sJ13_ntz (lN X)) = nI t := e2
    rw [e3]
    exact pp_core (B := 127) (R := 23) hr (by omega)
  · rw [if_neg (by decide)]
    have h1 : 4503599627370496 ≤ c := h1
    have h2 : c < 9007199254740992 := h2
    have h4 : E * 4503599627370496 + 4503599627370496 ≤ 9223372036854775808 := h4
    have q5' : X = (W + E) * 4503599627370496 + (c - 4503599627370496) := q5
    have q6 : (W + E) % 2048 = E % 2048 := q6
    have e1 : Int64.toInt32 ((lN X >>> ((Int32.toInt64 52) &&& 63)) &&& (2047 : Int64)) = nI E := by
      rw [show ((lN X >>> ((Int32.toInt64 52) &&& 63)) &&& (2047 : Int64)) = lN (X / 2 ^ 52 % 2 ^ 11) from sshr_mask (R := 52) (w := 11) q1 (by decide) (by decide), l2i_N]
      congr 1
      show X / 4503599627370496 % 2048 = E
      omega
    have e2 := min_ntz (R := 52) (by decide) q1 (show 0 < W + E by omega) q5 h1 h2 hb ht
    rw [e1]
    have e3 : (if 52 < sJ13_ntz (lN X) then (52 : Int32) else sJ13_ntz (lN X)) = nI t := e2
    rw [e3]
    exact pp_core (B := 1023) (R := 52) hr (by omega)
