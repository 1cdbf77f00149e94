-- NUMBERS OF BYTES
theorem fstep (n : Nat) {b : Nat} (hb : b < 256) : (lN n <<< ((Int32.toInt64 8) &&& 63)) ||| lN b = lN (n * 256 + b) := by
  have e := wb_shl n (k := 8) (by decide)
  rw [show lN n <<< ((Int32.toInt64 8) &&& 63) = lN (n * 2 ^ 8) from e]
  have e1 : lN (n * 2 ^ 8) = lN ((n % 2 ^ 56) * 256) := by
    rw [wb_mod (n * 2 ^ 8)]
    exact congrArg lN (by omega)
  have e2 : lN (n * 256 + b) = lN ((n % 2 ^ 56) * 256 + b) := by
    rw [wb_mod (n * 256 + b), wb_mod ((n % 2 ^ 56) * 256 + b)]
    exact congrArg lN (by omega)
  rw [e1, e2]
  exact g_or (k := 8) rfl hb (by omega)
def valB (B : Nat → Nat) : Nat → Nat → Nat → Nat
  | 0, _, x => x
  | n + 1, p, x => valB B n (p + 1) (x * 256 + B p)
theorem folB_v {B : Nat → Nat} : ∀ n p x, (∀ i, i < p + n → p ≤ i → B i < 256) → folB B n p (lN x) = lN (valB B n p x)
  | 0, _, _, _ => rfl
  | n + 1, p, x, h => by
    show folB B n (p + 1) ((lN x <<< ((Int32.toInt64 8) &&& 63)) ||| lN (B p)) = lN (valB B n (p + 1) (x * 256 + B p))
    rw [fstep x (h p (by omega) (Nat.le_refl _))]
    exact folB_v n (p + 1) _ (fun i h1 h2 => h i (by omega) (by omega))
theorem valB_a (B : Nat → Nat) : ∀ n p x, valB B n p x = x * 256 ^ n + valB B n p 0
  | 0, _, x => by show x = x * 1 + 0; omega
  | n + 1, p, x => by
    show valB B n (p + 1) (x * 256 + B p) = x * 256 ^ (n + 1) + valB B n (p + 1) (0 * 256 + B p)
    rw [valB_a B n (p + 1) (x * 256 + B p), valB_a B n (p + 1) (0 * 256 + B p), Nat.add_mul, Nat.mul_assoc, Nat.pow_succ, Nat.mul_comm 256 (256 ^ n), Nat.zero_mul, Nat.zero_add]
    omega
theorem valB_lt {B : Nat → Nat} : ∀ n p, (∀ i, i < p + n → p ≤ i → B i < 256) → valB B n p 0 < 256 ^ n
  | 0, _, _ => by show 0 < 1; omega
  | n + 1, p, h => by
    show valB B n (p + 1) (0 * 256 + B p) < 256 ^ (n + 1)
    rw [valB_a]
    have h1 := valB_lt n (p + 1) (fun i h1 h2 => h i (by omega) (by omega))
    have h2 := h p (by omega) (Nat.le_refl _)
    have h3 : (B p + 1) * 256 ^ n ≤ 256 * 256 ^ n := Nat.mul_le_mul_right _ h2
    rw [Nat.add_mul, Nat.one_mul] at h3
    rw [Nat.pow_succ, Nat.mul_comm (256 ^ n) 256, Nat.zero_mul, Nat.zero_add]
    omega
theorem m1_lN : (-1 : Int64) = lN (2 ^ 64 - 1) := by decide
theorem val_hi {B : Nat → Nat} {n p : Nat} (h : ∀ i, i < p + (n + 1) → p ≤ i → B i < 256) : (B p < 128 → valB B (n + 1) p 0 < 128 * 256 ^ n) ∧ (128 ≤ B p → 128 * 256 ^ n ≤ valB B (n + 1) p 0) := by
  have e : valB B (n + 1) p 0 = B p * 256 ^ n + valB B n (p + 1) 0 := by
    show valB B n (p + 1) (0 * 256 + B p) = _
    rw [valB_a, Nat.zero_mul, Nat.zero_add]
  have h1 := valB_lt n (p + 1) (fun i h1 h2 => h i (by omega) (by omega))
  rw [e]
  refine ⟨fun c => ?_, fun c => ?_⟩
  · have h3 : (B p + 1) * 256 ^ n ≤ 128 * 256 ^ n := Nat.mul_le_mul_right _ c
    rw [Nat.add_mul, Nat.one_mul] at h3
    omega
  · have h3 : 128 * 256 ^ n ≤ B p * 256 ^ n := Nat.mul_le_mul_right _ c
    omega
theorem sg_v {B : Nat → Nat} {n p : Nat} (hn : n ≤ 7) (h : ∀ i, i < p + (n + 1) → p ≤ i → B i < 256) : sgB B p (n + 1) = if B p < 128 then lN (valB B (n + 1) p 0) else lN (2 ^ 64 - 256 ^ (n + 1) + valB B (n + 1) p 0) := by
  unfold sgB
  by_cases c : B p < 128
  · rw [if_pos c, if_pos c]
    exact folB_v (n + 1) p 0 h
  · rw [if_neg c, if_neg c, m1_lN, folB_v (n + 1) p _ h, valB_a]
    have hv := valB_lt (n + 1) p h
    have hp : 256 ^ (n + 1) ≤ 2 ^ 64 := by
      have : 256 ^ (n + 1) ≤ 256 ^ 8 := Nat.pow_le_pow_right (by decide) (by omega)
      exact this
    have hp1 : 0 < 256 ^ (n + 1) := Nat.pow_pos (by decide)
    generalize 256 ^ (n + 1) = q at hv hp hp1 ⊢
    generalize valB B (n + 1) p 0 = v at hv ⊢
    rw [wb_mod ((2 ^ 64 - 1) * q + v), wb_mod (2 ^ 64 - q + v)]
    refine congrArg lN ?_
    have e : (2 ^ 64 - 1) * q + v = 2 ^ 64 * (q - 1) + (2 ^ 64 - q + v) := by
      rw [Nat.sub_mul, Nat.mul_sub]
      have : q ≤ 2 ^ 64 * q := Nat.le_mul_of_pos_left q (by decide)
      have : 2 ^ 64 ≤ 2 ^ 64 * q := Nat.le_mul_of_pos_right _ hp1
      omega
    rw [e, Nat.mul_add_mod]
theorem sg_i {B : Nat → Nat} {n p : Nat} (hn : n ≤ 7) (h : ∀ i, i < p + (n + 1) → p ≤ i → B i < 256) : -((128 * 256 ^ n : Nat) : Int) ≤ (sgB B p (n + 1)).toInt ∧ (sgB B p (n + 1)).toInt < ((128 * 256 ^ n : Nat) : Int) := by
  obtain ⟨h1, h2⟩ := val_hi h
  have hv := valB_lt (n + 1) p h
  rw [sg_v hn h]
  have hp : 256 ^ (n + 1) = 256 * 256 ^ n := by rw [Nat.pow_succ, Nat.mul_comm]
  have hp2 : 256 ^ n ≤ 2 ^ 56 := by
    have : 256 ^ n ≤ 256 ^ 7 := Nat.pow_le_pow_right (by decide) (by omega)
    exact this
  rw [hp] at hv ⊢
  generalize 256 ^ n = q at *
  generalize valB B (n + 1) p 0 = v at *
  by_cases c : B p < 128
  · rw [if_pos c, lN_ti (by have := h1 c; omega), if_pos (by have := h1 c; omega)]
    have := h1 c
    omega
  · have := h2 (by omega)
    rw [if_neg c, lN_ti (by omega), if_neg (by omega)]
    omega
theorem ft1 {k : Nat} {v : Int64} (lo hi : Int) (hk : k < 5) (h : (k = 0 ∧ lo = 0 ∧ hi = 1) ∨ (k = 1 ∧ lo = -128 ∧ hi = 127) ∨ (k = 2 ∧ lo = 0 ∧ hi = 65535) ∨ (k = 3 ∧ lo = -32768 ∧ hi = 32767) ∨ (k = 4 ∧ lo = -2147483648 ∧ hi = 2147483647)) : sX0_fits (nI k) v = decide (lo ≤ v.toInt ∧ v.toInt ≤ hi) := by
  have key : ∀ (a b : Int64), a.toInt = lo → b.toInt = hi → (if v < a then false else if b < v then false else true) = decide (lo ≤ v.toInt ∧ v.toInt ≤ hi) := by
    intro a b ea eb
    by_cases c1 : v < a
    · rw [if_pos c1, decide_eq_false]
      have := Int64.lt_iff_toInt_lt.mp c1
      omega
    · rw [if_neg c1]
      have d1 : ¬ v.toInt < lo := fun z => c1 (Int64.lt_iff_toInt_lt.mpr (by omega))
      by_cases c2 : b < v
      · rw [if_pos c2, decide_eq_false]
        have := Int64.lt_iff_toInt_lt.mp c2
        omega
      · rw [if_neg c2, decide_eq_true]
        have d2 : ¬ hi < v.toInt := fun z => c2 (Int64.lt_iff_toInt_lt.mpr (by omega))
        omega
  rcases h with ⟨rfl, rfl, rfl⟩ | ⟨rfl, rfl, rfl⟩ | ⟨rfl, rfl, rfl⟩ | ⟨rfl, rfl, rfl⟩ | ⟨rfl, rfl, rfl⟩
  · exact key 0 1 rfl rfl
  · exact key (-128) 127 rfl rfl
  · exact key 0 65535 rfl rfl
  · exact key (-32768) 32767 rfl rfl
  · exact key (-2147483648) 2147483647 rfl rfl
theorem ft5 (v : Int64) : sX0_fits (nI 5) v = true := by
  show (if v < (-9223372036854775808 : Int64) then false else if (9223372036854775807 : Int64) < v then false else true) = true
  have h1 : ¬ v < (-9223372036854775808 : Int64) := fun z => by
    have := Int64.lt_iff_toInt_lt.mp z
    have e : (-9223372036854775808 : Int64).toInt = -9223372036854775808 := rfl
    have := Int64.le_toInt v
    omega
  have h2 : ¬ (9223372036854775807 : Int64) < v := fun z => by
    have := Int64.lt_iff_toInt_lt.mp z
    have e : (9223372036854775807 : Int64).toInt = 9223372036854775807 := rfl
    have := Int64.toInt_lt v
    omega
  rw [if_neg h1, if_neg h2]
/-- the reference's number of a kind below 6 -/
def refI (B : Nat → Nat) (k p : Nat) : Int64 := folB B (wdK k) p (if (¬ k = 0 ∧ ¬ k = 2) ∧ 127 < B p then -1 else 0)
theorem refI_s {B : Nat → Nat} {k p : Nat} (h0 : ¬ k = 0) (h2 : ¬ k = 2) : refI B k p = sgB B p (wdK k) := by
  unfold refI sgB
  by_cases c : B p < 128
  · rw [if_pos c, if_neg (by omega)]
  · rw [if_neg c, if_pos ⟨⟨h0, h2⟩, by omega⟩]
theorem numV_I {B : Nat → Nat} {k p : Nat} (hk : k < 6) (h : ∀ i, i < p + wdK k → p ≤ i → B i < 256) : numV B k p = if k = 0 ∧ 1 < B p then none else some (refI B k p) := by
  unfold numV
  rw [if_pos hk]
  have hcs : k = 0 ∨ k = 1 ∨ k = 2 ∨ k = 3 ∨ k = 4 ∨ k = 5 := by omega
  rcases hcs with rfl | rfl | rfl | rfl | rfl | rfl
  · have e := sg_v (n := 0) (by decide) h
    have ev : valB B (0 + 1) p 0 = B p := by show 0 * 256 + B p = B p; omega
    have hb := h p (by show p < p + 1; omega) (Nat.le_refl _)
    have er : refI B 0 p = lN (B p) := by
      unfold refI
      rw [if_neg (by omega)]
      have q := folB_v 1 p 0 h
      rw [show valB B 1 p 0 = B p from ev] at q
      exact q
    have en : numI B 0 p = sgB B p (0 + 1) := if_neg (by decide)
    rw [en, ft1 0 1 (by decide) (Or.inl ⟨rfl, rfl, rfl⟩), er, e, ev]
    by_cases c : B p < 128
    · rw [if_pos c, pf_lI (by omega)]
      by_cases c1 : 1 < B p
      · rw [if_neg (by rw [decide_eq_true_iff]; omega), if_pos ⟨rfl, c1⟩]
      · rw [if_pos (by rw [decide_eq_true_iff]; omega), if_neg (fun z => c1 z.2)]
    · have et : (lN (2 ^ 64 - 256 ^ (0 + 1) + B p)).toInt = (B p : Int) - 256 := by
        rw [lN_ti (by omega), if_neg (by omega)]
        omega
      rw [if_neg c, et, if_neg (by rw [decide_eq_true_iff]; omega), if_pos (show 0 = 0 ∧ 1 < B p from ⟨rfl, by omega⟩)]
  · have e := sg_i (n := 0) (by decide) h
    have en : numI B 1 p = sgB B p (0 + 1) := if_neg (by decide)
    rw [en, ft1 (-128) 127 (by decide) (Or.inr (Or.inl ⟨rfl, rfl, rfl⟩)), if_pos (by rw [decide_eq_true_iff]; omega), if_neg (by omega), refI_s (by decide) (by decide)]
    rfl
  · have e := sg_v (n := 1) (by decide) h
    have hv := valB_lt 2 p h
    have er : refI B 2 p = lN (valB B 2 p 0) := by
      unfold refI
      rw [if_neg (by omega)]
      exact folB_v 2 p 0 h
    have en : numI B 2 p = lN (valB B 2 p 0) := by
      show sgB B p (1 + 1) &&& lN (65536 - 1) = _
      rw [e]
      by_cases c : B p < 128
      · rw [if_pos c, g_mask (s := 16) rfl (by decide) (by show valB B 2 p 0 < _; omega)]
        show lN (valB B 2 p 0 % 65536) = _
        rw [Nat.mod_eq_of_lt hv]
      · rw [if_neg c, g_mask (s := 16) rfl (by decide) (by show 2 ^ 64 - 256 ^ 2 + valB B 2 p 0 < _; omega)]
        show lN ((2 ^ 64 - 256 ^ 2 + valB B 2 p 0) % 65536) = _
        exact congrArg lN (by omega)
    rw [en, ft1 0 65535 (by decide) (Or.inr (Or.inr (Or.inl ⟨rfl, rfl, rfl⟩))), pf_lI (by omega), if_pos (by rw [decide_eq_true_iff]; omega), if_neg (by omega), er]
  · have e := sg_i (n := 1) (by decide) h
    have en : numI B 3 p = sgB B p (1 + 1) := if_neg (by decide)
    rw [en, ft1 (-32768) 32767 (by decide) (Or.inr (Or.inr (Or.inr (Or.inl ⟨rfl, rfl, rfl⟩)))), if_pos (by rw [decide_eq_true_iff]; omega), if_neg (by omega), refI_s (by decide) (by decide)]
    rfl
  · have e := sg_i (n := 3) (by decide) h
    have en : numI B 4 p = sgB B p (3 + 1) := if_neg (by decide)
    rw [en, ft1 (-2147483648) 2147483647 (by decide) (Or.inr (Or.inr (Or.inr (Or.inr ⟨rfl, rfl, rfl⟩)))), if_pos (by rw [decide_eq_true_iff]; omega), if_neg (by omega), refI_s (by decide) (by decide)]
    rfl
  · have en : numI B 5 p = sgB B p (wdK 5) := if_neg (by decide)
    rw [en, ft5, if_pos rfl, if_neg (by omega), refI_s (by decide) (by decide)]
