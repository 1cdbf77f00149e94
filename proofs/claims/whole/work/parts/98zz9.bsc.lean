-- FLOATS AND DOUBLES OF BYTES
def scB (k n e : Nat) : Bool := decide (n % 2 = 1 ∧ e ≤ 66 ∧ n < 2 ^ (rmK k + 1) ∧ (n = 1 ∨ n.log2 + 1 + e ≤ 66))
theorem sgn_c (s : Bool) (n : Nat) : Int64.ofInt (FP.Core.signed s n) = if s = true then -(lN n) else lN n := by
  cases s with
  | false => rfl
  | true => exact neg_lN
theorem sgn_f (n : Nat) : Int64.ofInt (FP.Core.signed false n) = lN n := rfl
theorem sgn_t (n : Nat) : Int64.ofInt (FP.Core.signed true n) = -(lN n) := neg_lN
theorem neg_N {n : Nat} (h0 : 0 < n) (h : n < 2 ^ 64) : -(lN n) = lN (2 ^ 64 - n) := by
  have := lN_wrap (a := 0) (b := n) (by omega)
  rw [Nat.zero_add] at this
  rw [← this]
  show -(lN n) = 0 - lN n
  rw [Int64.zero_sub]
theorem m_cases (m : Int64) : m = 0 ∨ m = -9223372036854775808 ∨ ∃ s n, 0 < n ∧ n < 2 ^ 63 ∧ m = Int64.ofInt (FP.Core.signed s n) := by
  obtain ⟨n, hn, rfl⟩ := wb_of m
  by_cases c0 : n = 0
  · subst c0; exact Or.inl rfl
  · by_cases c1 : n < 2 ^ 63
    · exact Or.inr (Or.inr ⟨false, n, by omega, c1, rfl⟩)
    · by_cases c2 : n = 2 ^ 63
      · subst c2; exact Or.inr (Or.inl (by decide))
      · refine Or.inr (Or.inr ⟨true, 2 ^ 64 - n, by omega, by omega, ?_⟩)
        rw [sgn_c, if_pos rfl, neg_N (by omega) (by omega)]
        exact congrArg lN (by omega)
theorem sc_tail {k n e : Nat} (hk : k = 6 ∨ k = 7) (h0 : 0 < n) (hn : n < 2 ^ 63) (he : e < 256) (ho : n % 2 = 1) (h66 : e ≤ 66) (c : Int32) (hc : c = nI (rmK k + 1)) : (if (64 - (sJ13_nlz (lN n))) ≤ c then (if lN n = (1 : Int64) then true else (if 66 < ((64 - (sJ13_nlz (lN n))) + nI e) then false else true)) else false) = scB k n e := by
  have hl : n.log2 < 63 := (Nat.log2_lt (by omega)).mpr hn
  have hr := rmK_le hk
  have e1 : (64 : Int32) - sJ13_nlz (lN n) = nI (n.log2 + 1) := by
    rw [nlzL_N h0 hn]
    show nI 64 - nI (63 - n.log2) = _
    rw [nI_sb (by omega)]
    exact congrArg nI (by omega)
  rw [e1, hc]
  have e2 : (nI (n.log2 + 1) ≤ nI (rmK k + 1)) ↔ n < 2 ^ (rmK k + 1) := by
    rw [E32 (by omega) (by omega), ← Nat.log2_lt (by omega)]
    omega
  have e3 : ((66 : Int32) < nI (n.log2 + 1) + nI e) ↔ 66 < n.log2 + 1 + e := by
    rw [nI_add]
    exact L32 (n := 66) (by omega) (by omega)
  have e4 : lN n = (1 : Int64) ↔ n = 1 := by
    constructor
    · intro z
      have := congrArg Int64.toInt z
      rw [pf_lI hn] at this
      have e : (1 : Int64).toInt = 1 := rfl
      omega
    · intro z; rw [z]; rfl
  unfold scB
  by_cases c1 : n < 2 ^ (rmK k + 1)
  · rw [if_pos (e2.mpr c1)]
    by_cases c2 : n = 1
    · rw [if_pos (e4.mpr c2), decide_eq_true ⟨ho, h66, c1, Or.inl c2⟩]
    · rw [if_neg (fun z => c2 (e4.mp z))]
      by_cases c3 : 66 < n.log2 + 1 + e
      · rw [if_pos (e3.mpr c3), decide_eq_false]
        rintro ⟨-, -, -, z | z⟩
        · exact c2 z
        · omega
      · rw [if_neg (fun z => c3 (e3.mp z)), decide_eq_true ⟨ho, h66, c1, Or.inr (by omega)⟩]
  · rw [if_neg (fun z => c1 (e2.mp z)), decide_eq_false (fun z => c1 z.2.2.1)]
theorem isS_eq {k n e : Nat} (hk : k = 6 ∨ k = 7) (s : Bool) (h0 : 0 < n) (hn : n < 2 ^ 63) (he : e < 256) : sX1_isScaled (nI k) (Int64.ofInt (FP.Core.signed s n)) (nI e) = scB k n e := by
  obtain ⟨z1, z2, z3⟩ := lN_n0 h0 hn
  have z4 := lN_lt0 hn
  have p1 : ∀ x : Int64, (x = lN n ∨ x = -(lN n)) → x &&& (1 : Int64) = lN (n % 2) := by
    rintro x (rfl | rfl)
    · exact wb_a1 (by omega)
    · rw [neg_N h0 (by omega), wb_a1 (by omega)]
      exact congrArg lN (by omega)
  have p2 : lN (n % 2) = (0 : Int64) ↔ n % 2 = 0 := by
    rcases Nat.mod_two_eq_zero_or_one n with q | q <;> rw [q] <;> decide
  have p3 : (nI e ≤ (66 : Int32)) ↔ e ≤ 66 := E32 (m := 66) (by omega) (by omega)
  unfold sX1_isScaled
  by_cases co : n % 2 = 0
  · have hf : scB k n e = false := decide_eq_false (fun z => by have := z.1; omega)
    cases s with
    | false => rw [sgn_f, if_neg z1, p1 _ (Or.inl rfl), if_pos (p2.mpr co), hf]
    | true => rw [sgn_t, if_neg z2, p1 _ (Or.inr rfl), if_pos (p2.mpr co), hf]
  · by_cases c6 : e ≤ 66
    · have hx : k = 6 → rmK k = 23 := fun z => by rw [z]; rfl
      have hy : k = 7 → rmK k = 52 := fun z => by rw [z]; rfl
      have nn : - -(lN n) = lN n := Int64.neg_neg
      cases s with
      | false =>
        rw [sgn_f, if_neg z1, p1 _ (Or.inl rfl), if_neg (fun z => co (p2.mp z)), if_pos (p3.mpr c6), if_pos z4]
        rcases hk with rfl | rfl
        · rw [if_pos (show nI 6 = (6 : Int32) from rfl)]; exact sc_tail (Or.inl rfl) h0 hn he (by omega) c6 24 rfl
        · rw [if_neg (by decide)]; exact sc_tail (Or.inr rfl) h0 hn he (by omega) c6 53 rfl
      | true =>
        rw [sgn_t, if_neg z2, p1 _ (Or.inr rfl), if_neg (fun z => co (p2.mp z)), if_pos (p3.mpr c6), if_neg z3, nn]
        rcases hk with rfl | rfl
        · rw [if_pos (show nI 6 = (6 : Int32) from rfl)]; exact sc_tail (Or.inl rfl) h0 hn he (by omega) c6 24 rfl
        · rw [if_neg (by decide)]; exact sc_tail (Or.inr rfl) h0 hn he (by omega) c6 53 rfl
    · have hf : scB k n e = false := decide_eq_false (fun z => c6 z.2.1)
      cases s with
      | false => rw [sgn_f, if_neg z1, p1 _ (Or.inl rfl), if_neg (fun z => co (p2.mp z)), if_neg (fun z => c6 (p3.mp z)), hf]
      | true => rw [sgn_t, if_neg z2, p1 _ (Or.inr rfl), if_neg (fun z => co (p2.mp z)), if_neg (fun z => c6 (p3.mp z)), hf]
theorem isS_0 {k e : Nat} (he : e < 256) : sX1_isScaled (nI k) 0 (nI e) = decide (e = 0) := by
  unfold sX1_isScaled
  rw [if_pos rfl]
  by_cases c : e = 0
  · rw [c]; rfl
  · rw [if_neg (fun z => c ((nI_z (by omega)).mp z)), decide_eq_false c]
theorem isS_m {k e : Nat} : sX1_isScaled (nI k) (-9223372036854775808) (nI e) = false := by
  unfold sX1_isScaled
  rw [if_neg (by decide), if_pos (by decide)]
/-- the double of such a number, and its bits -/
theorem sc_D {k n e : Nat} (hk : k = 6 ∨ k = 7) (h : scB k n e = true) : 0 < n ∧ n < 2 ^ 53 ∧ n < 2 ^ (rmK k + 1) ∧ e ≤ 66 ∧ okD k (n * 2 ^ (52 - n.log2)) ((n.log2 : Int) - 55 + e) ∧ ((n.log2 : Int) - 55 + e ≤ 10 ∨ ((n.log2 : Int) - 55 + e = 11 ∧ n * 2 ^ (52 - n.log2) = 2 ^ 52)) := by
  obtain ⟨h1, h2, h3, h4⟩ := of_decide_eq_true h
  have hr := rmK_le hk
  have h0 : 0 < n := by omega
  have hl : n.log2 < rmK k + 1 := (Nat.log2_lt (by omega)).mpr h3
  have h53 : n < 2 ^ 53 := Nat.lt_of_lt_of_le h3 (Nat.pow_le_pow_right (by decide) (by omega))
  have b1 : 2 ^ n.log2 ≤ n := Nat.log2_self_le (by omega)
  have b2 : n < 2 ^ (n.log2 + 1) := Nat.lt_log2_self
  have hn1 : n = 1 → n.log2 = 0 := fun z => by rw [z]; decide
  refine ⟨h0, h53, h3, h2, ⟨?_, ?_, by omega, by omega, fun hq => ?_, fun h6 => ?_⟩, ?_⟩
  · have := Nat.mul_le_mul_right (2 ^ (52 - n.log2)) b1
    rw [← Nat.pow_add, show n.log2 + (52 - n.log2) = 52 by omega] at this
    exact this
  · have := (Nat.mul_lt_mul_right (show 0 < 2 ^ (52 - n.log2) from Nat.pow_pos (by decide))).mpr b2
    rw [← Nat.pow_add, show n.log2 + 1 + (52 - n.log2) = 53 by omega] at this
    exact this
  · rw [show (52 - n.log2) = (52 - n.log2 - (-3 - ((n.log2 : Int) - 55 + e)).toNat) + (-3 - ((n.log2 : Int) - 55 + e)).toNat by omega, Nat.pow_add, ← Nat.mul_assoc]
    exact Nat.mul_mod_left _ _
  · have h23 : rmK k = 23 := by rw [h6]; rfl
    rw [show (52 - n.log2) = (52 - n.log2 - 29) + 29 by omega, Nat.pow_add, ← Nat.mul_assoc]
    exact Nat.mul_mod_left _ _
  · rcases h4 with z | z
    · have hl0 := hn1 z
      by_cases c : e ≤ 65
      · exact Or.inl (by omega)
      · exact Or.inr ⟨by omega, by rw [z]; decide⟩
    · exact Or.inl (by omega)
theorem sc_fb {k n e : Nat} (hk : k = 6 ∨ k = 7) (s : Bool) (h : scB k n e = true) : sX0_scaledBits (nI k) (Int64.ofInt (FP.Core.signed s n)) (nI e) = fb k (nd s (n * 2 ^ (52 - n.log2)) ((n.log2 : Int) - 55 + e)) := by
  obtain ⟨h0, h1, h2, h3, h4, -⟩ := sc_D hk h
  have hr := rmK_le hk
  have hb := bsK_le hk
  have hl : n.log2 < rmK k + 1 := (Nat.log2_lt (by omega)).mpr h2
  rw [sc_of hk s h0 h2 (by omega), fb_nd s h4]
  have e1 : n * 2 ^ (52 - n.log2) / 2 ^ (52 - rmK k) = n * 2 ^ (rmK k - n.log2) := by
    rw [show 52 - n.log2 = (rmK k - n.log2) + (52 - rmK k) by omega, Nat.pow_add, ← Nat.mul_assoc]
    exact Nat.mul_div_cancel _ (Nat.pow_pos (by decide))
  have e2 : ((n.log2 : Int) - 55 + e + 52 + bsK k).toNat = e + n.log2 + bsK k - 3 := by omega
  rw [e1, e2]
theorem sc_okF {k n e : Nat} (hk : k = 6 ∨ k = 7) (s : Bool) (h : scB k n e = true) : okF k (sX0_scaledBits (nI k) (Int64.ofInt (FP.Core.signed s n)) (nI e)) := by
  rw [sc_fb hk s h]
  obtain ⟨-, -, -, -, h4, h5⟩ := sc_D hk h
  exact ⟨_, Or.inr ⟨s, _, _, h4, rfl⟩, smD_nd (okD_nrm0 h4) h5, rfl⟩
theorem sc_0 (k : Nat) (e : Int32) : sX0_scaledBits (nI k) 0 e = 0 := by
  unfold sX0_scaledBits
  rw [if_pos rfl]
