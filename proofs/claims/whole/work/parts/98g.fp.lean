-- DOUBLES BY SIGN, DIGITS, EXPONENT
theorem n64_of {x : UInt64} {s : Bool} {c : Nat} {r : Int} (h : FP.Core.val64 x = .fin s c r) : vf_n64 x := by
  unfold vf_n64
  have h1 : FP.Core.fieldE FP.Core.b64 x.toNat ≠ FP.Core.b64.exps - 1 := by
    intro e
    unfold FP.Core.val64 FP.Core.decode at h
    rw [if_pos e] at h
    split at h <;> cases h
  have h2 : x.toNat / 4503599627370496 % 2048 ≠ 2047 := h1
  rw [UInt64.le_iff_toNat_le, UInt64.toNat_and]
  show x.toNat &&& (2 ^ 63 - 1) ≤ 9218868437227405312
  rw [Nat.and_two_pow_sub_one_eq_mod]
  omega
theorem n32_of {x : UInt32} {s : Bool} {c : Nat} {r : Int} (h : FP.Core.val32 x = .fin s c r) : vf_n32 x := by
  unfold vf_n32
  have h1 : FP.Core.fieldE FP.Core.b32 x.toNat ≠ FP.Core.b32.exps - 1 := by
    intro e
    unfold FP.Core.val32 FP.Core.decode at h
    rw [if_pos e] at h
    split at h <;> cases h
  have h2 : x.toNat / 8388608 % 256 ≠ 255 := h1
  rw [UInt32.le_iff_toNat_le, UInt32.toNat_and]
  show x.toNat &&& (2 ^ 31 - 1) ≤ 2139095040
  rw [Nat.and_two_pow_sub_one_eq_mod]
  omega
def nrm (c : Nat) (r : Int) : Prop := 2 ^ 52 ≤ c ∧ c < 2 ^ 53 ∧ -300 ≤ r ∧ r ≤ 300
def nrf (c : Nat) (r : Int) : Prop := 2 ^ 23 ≤ c ∧ c < 2 ^ 24 ∧ -90 ≤ r ∧ r ≤ 90
theorem q64 : FP.Core.b64.qmin = -1074 ∧ FP.Core.b64.qmax = 971 := by decide
theorem q32 : FP.Core.b32.qmin = -149 ∧ FP.Core.b32.qmax = 104 := by decide
theorem nrm.fits {c : Nat} {r : Int} (h : nrm c r) (s : Bool) : FP.Core.fits FP.Core.b64 (.fin s c r) := by
  obtain ⟨h1, h2, h3, h4⟩ := h
  refine ⟨h2, ?_, ?_, Or.inr h1⟩
  · rw [q64.1]; omega
  · rw [q64.2]; omega
theorem nrf.fits {c : Nat} {r : Int} (h : nrf c r) (s : Bool) : FP.Core.fits FP.Core.b32 (.fin s c r) := by
  obtain ⟨h1, h2, h3, h4⟩ := h
  refine ⟨h2, ?_, ?_, Or.inr h1⟩
  · rw [q32.1]; omega
  · rw [q32.2]; omega
theorem nrm.val {c : Nat} {r : Int} (h : nrm c r) (s : Bool) : FP.Core.val64 (nd s c r) = .fin s c r := FP.Core.val64_of64 (h.fits s)
theorem nrf.val {c : Nat} {r : Int} (h : nrf c r) (s : Bool) : FP.Core.val32 (nf s c r) = .fin s c r := FP.Core.val32_of32 (h.fits s)
theorem nd_of {x : UInt64} {s : Bool} {c : Nat} {r : Int} (h : FP.Core.val64 x = .fin s c r) : x = nd s c r := by
  unfold nd
  rw [← h, FP.Core.of64_val64 (by rw [h]; intro z; cases z)]
theorem nf_of {x : UInt32} {s : Bool} {c : Nat} {r : Int} (h : FP.Core.val32 x = .fin s c r) : x = nf s c r := by
  unfold nf
  rw [← h, FP.Core.of32_val32 (by rw [h]; intro z; cases z)]
theorem nrm.n {c : Nat} {r : Int} (h : nrm c r) (s : Bool) : vf_n64 (nd s c r) := n64_of (h.val s)
theorem nrf.n {c : Nat} {r : Int} (h : nrf c r) (s : Bool) : vf_n32 (nf s c r) := n32_of (h.val s)
theorem rnd_ex {s : Bool} {n c : Nat} {q r : Int} (h : nrm c r) (he : n * 2 ^ (q - r).toNat = c * 2 ^ (r - q).toNat) : FP.Core.round FP.Core.b64 (.fin s n q) = .fin s c r :=
  FP.Core.roundRatio_exact FP.Core.good_b64 (by decide) (h.fits s) (by rw [Nat.mul_one]; exact he)
theorem rnf_ex {s : Bool} {n c : Nat} {q r : Int} (h : nrf c r) (he : n * 2 ^ (q - r).toNat = c * 2 ^ (r - q).toNat) : FP.Core.round FP.Core.b32 (.fin s n q) = .fin s c r :=
  FP.Core.roundRatio_exact FP.Core.good_b32 (by decide) (h.fits s) (by rw [Nat.mul_one]; exact he)
theorem bxf (s : Bool) : (s != false) = s := by cases s <;> rfl
-- a power of two, as a factor
theorem dmul_p {s : Bool} {c : Nat} {r : Int} {b : UInt64} (k : Int) (h : nrm c r) (h' : nrm c (r + k)) (hb : FP.Core.val64 b = .fin false (2 ^ 52) (k - 52)) : FP.dmul (nd s c r) b = nd s c (r + k) := by
  apply nd_of
  show FP.Core.val64 (FP.Core.dmul (nd s c r) b) = _
  rw [FP.Core.val64_dmul, h.val, hb]
  show FP.Core.round FP.Core.b64 (.fin (s != false) (c * 2 ^ 52) (r + (k - 52))) = _
  rw [bxf]
  refine rnd_ex h' ?_
  rw [show (r + (k - 52) - (r + k)).toNat = 0 by omega, show (r + k - (r + (k - 52))).toNat = 52 by omega, Nat.pow_zero, Nat.mul_one]
theorem ddiv_p {s : Bool} {c : Nat} {r : Int} {b : UInt64} (k : Int) (h : nrm c r) (h' : nrm c (r - k)) (hb : FP.Core.val64 b = .fin false (2 ^ 52) (k - 52)) : FP.ddiv (nd s c r) b = nd s c (r - k) := by
  apply nd_of
  show FP.Core.val64 (FP.Core.ddiv (nd s c r) b) = _
  rw [FP.Core.val64_ddiv, h.val, hb]
  show (if 2 ^ 52 = 0 then (if c = 0 then FP.Core.Datum.nan else .inf (s != false)) else FP.Core.roundRatio FP.Core.b64 (s != false) c (2 ^ 52) (r - (k - 52))) = _
  rw [if_neg (by decide), bxf]
  refine FP.Core.roundRatio_exact FP.Core.good_b64 (by decide) (h'.fits s) ?_
  rw [show (r - (k - 52) - (r - k)).toNat = 52 by omega, show (r - k - (r - (k - 52))).toNat = 0 by omega, Nat.pow_zero, Nat.mul_one]
theorem dneg_nd {s : Bool} {c : Nat} {r : Int} (h : nrm c r) : FP.dneg (nd s c r) = nd (!s) c r := by
  apply nd_of
  rw [FP.val64_dneg, h.val]
  rfl
theorem k8 : FP.Core.val64 4620693217682128896 = .fin false (2 ^ 52) (3 - 52) := by decide +kernel
theorem k2 : FP.Core.val64 4611686018427387904 = .fin false (2 ^ 52) (1 - 52) := by decide +kernel
theorem kh : FP.Core.val64 4602678819172646912 = .fin false (2 ^ 52) ((-1) - 52) := by decide +kernel
theorem ke : FP.Core.val64 4593671619917905920 = .fin false (2 ^ 52) ((-3) - 52) := by decide +kernel
theorem k24 : FP.Core.val64 4715268809856909312 = .fin false (2 ^ 52) (24 - 52) := by decide +kernel
theorem k53 : FP.Core.val64 4845873199050653696 = .fin false (2 ^ 52) (53 - 52) := by decide +kernel
theorem k1 : FP.Core.val64 FP.dconst1 = .fin false (2 ^ 52) (0 - 52) := by decide +kernel
-- order
theorem cv1 (op : CmpOp) : Op.cmpValue (some .lt) op = -1 := by cases op <;> rfl
theorem cv2 (op : CmpOp) : Op.cmpValue (some .eq) op = 0 := by cases op <;> rfl
theorem cv3 (op : CmpOp) : Op.cmpValue (some .gt) op = 1 := by cases op <;> rfl
theorem cv_ge {a b : Int} {op : CmpOp} : 0 ≤ Op.cmpValue (some (compare a b)) op ↔ b ≤ a := by
  rcases Int.lt_trichotomy a b with h | h | h
  · rw [Int.compare_eq_lt.mpr h, cv1]; constructor
    · intro z; exact absurd z (by decide)
    · intro z; omega
  · rw [Int.compare_eq_eq.mpr h, cv2]; constructor
    · intro z; omega
    · intro z; decide
  · rw [Int.compare_eq_gt.mpr h, cv3]; constructor
    · intro z; omega
    · intro z; decide
theorem cv_le {a b : Int} {op : CmpOp} : Op.cmpValue (some (compare a b)) op ≤ 0 ↔ a ≤ b := by
  rcases Int.lt_trichotomy a b with h | h | h
  · rw [Int.compare_eq_lt.mpr h, cv1]; constructor
    · intro z; omega
    · intro z; decide
  · rw [Int.compare_eq_eq.mpr h, cv2]; constructor
    · intro z; omega
    · intro z; decide
  · rw [Int.compare_eq_gt.mpr h, cv3]; constructor
    · intro z; exact absurd z (by decide)
    · intro z; omega
theorem cv_eq {a b : Int} {op : CmpOp} : Op.cmpValue (some (compare a b)) op = 0 ↔ a = b := by
  rcases Int.lt_trichotomy a b with h | h | h
  · rw [Int.compare_eq_lt.mpr h, cv1]; constructor
    · intro z; exact absurd z (by decide)
    · intro z; omega
  · rw [Int.compare_eq_eq.mpr h, cv2]; exact ⟨fun _ => h, fun _ => rfl⟩
  · rw [Int.compare_eq_gt.mpr h, cv3]; constructor
    · intro z; exact absurd z (by decide)
    · intro z; omega
theorem dcmp_v {x y : UInt64} {s t : Bool} {c d : Nat} {r q : Int} (hx : FP.Core.val64 x = .fin s c r) (hy : FP.Core.val64 y = .fin t d q) : FP.dcmp x y = some (compare (FP.Core.signed s (c * 2 ^ (r - min r q).toNat)) (FP.Core.signed t (d * 2 ^ (q - min r q).toNat))) := by
  show FP.Core.order (FP.Core.val64 x) (FP.Core.val64 y) = _
  rw [hx, hy]
  rfl
theorem pw_ge {c : Nat} (h1 : 2 ^ 52 ≤ c) (h2 : c < 2 ^ 53) (r q : Int) : 2 ^ 52 * 2 ^ (q - min r q).toNat ≤ c * 2 ^ (r - min r q).toNat ↔ q ≤ r := by
  by_cases g : q ≤ r
  · rw [show min r q = q by omega, show (q - q).toNat = 0 by omega, Nat.pow_zero, Nat.mul_one]
    have := Nat.two_pow_pos (r - q).toNat
    exact ⟨fun _ => g, fun _ => Nat.le_trans h1 (Nat.le_mul_of_pos_right c this)⟩
  · rw [show min r q = r by omega, show (r - r).toNat = 0 by omega, Nat.pow_zero, Nat.mul_one]
    refine ⟨fun z => ?_, fun z => absurd z g⟩
    exfalso
    have e : 2 ^ (q - r).toNat = 2 ^ ((q - r).toNat - 1) * 2 := by rw [← Nat.pow_succ]; congr 1; omega
    have := Nat.two_pow_pos ((q - r).toNat - 1)
    rw [e] at z
    have : 2 ^ 52 * 2 ≤ 2 ^ 52 * (2 ^ ((q - r).toNat - 1) * 2) := Nat.mul_le_mul_left _ (by omega)
    omega
/-- x ≥ 2^(q+52) -/
theorem cge_p {x y : UInt64} {s : Bool} {c : Nat} {r q : Int} {op : CmpOp} (h : nrm c r) (hx : x = nd s c r) (hy : FP.Core.val64 y = .fin false (2 ^ 52) q) : 0 ≤ Op.cmpValue (FP.dcmp x y) op ↔ s = false ∧ q ≤ r := by
  subst hx
  rw [dcmp_v (h.val s) hy, cv_ge]
  have hp := pw_ge h.1 h.2.1 r q
  cases s
  · show ((2 ^ 52 * 2 ^ (q - min r q).toNat : Nat) : Int) ≤ ((c * 2 ^ (r - min r q).toNat : Nat) : Int) ↔ _
    rw [Int.ofNat_le, hp]
    exact ⟨fun z => ⟨rfl, z⟩, fun z => z.2⟩
  · show ((2 ^ 52 * 2 ^ (q - min r q).toNat : Nat) : Int) ≤ -((c * 2 ^ (r - min r q).toNat : Nat) : Int) ↔ _
    have := Nat.mul_pos (show 0 < 2 ^ 52 by decide) (Nat.two_pow_pos (q - min r q).toNat)
    constructor
    · intro z; omega
    · intro z; cases z.1
theorem cle_n {x y : UInt64} {s : Bool} {c : Nat} {r q : Int} {op : CmpOp} (h : nrm c r) (hx : x = nd s c r) (hy : FP.Core.val64 y = .fin true (2 ^ 52) q) : Op.cmpValue (FP.dcmp x y) op ≤ 0 ↔ s = true ∧ q ≤ r := by
  subst hx
  rw [dcmp_v (h.val s) hy, cv_le]
  have hp := pw_ge h.1 h.2.1 r q
  cases s
  · show ((c * 2 ^ (r - min r q).toNat : Nat) : Int) ≤ -((2 ^ 52 * 2 ^ (q - min r q).toNat : Nat) : Int) ↔ _
    have := Nat.mul_pos (show 0 < 2 ^ 52 by decide) (Nat.two_pow_pos (q - min r q).toNat)
    constructor
    · intro z; omega
    · intro z; cases z.1
  · show -((c * 2 ^ (r - min r q).toNat : Nat) : Int) ≤ -((2 ^ 52 * 2 ^ (q - min r q).toNat : Nat) : Int) ↔ _
    constructor
    · intro z; exact ⟨rfl, hp.mp (by omega)⟩
    · intro z; have := hp.mpr z.2; omega
/-- x against 0 -/
theorem c0_v {x : UInt64} {s : Bool} {c : Nat} {r : Int} {op : CmpOp} (hc : 0 < c) (hx : FP.Core.val64 x = .fin s c r) : (0 ≤ Op.cmpValue (FP.dcmp x FP.dconst0) op ↔ s = false) ∧ ¬ Op.cmpValue (FP.dcmp x FP.dconst0) op = 0 := by
  rw [dcmp_v hx k0, cv_ge, cv_eq]
  have h1 : 0 < c * 2 ^ (r - min r (-1074)).toNat := Nat.mul_pos hc (Nat.two_pow_pos _)
  have h2 : FP.Core.signed false (0 * 2 ^ (-1074 - min r (-1074)).toNat) = 0 := by rw [Nat.zero_mul]; rfl
  rw [h2]
  cases s
  · show ((0 : Int) ≤ ((c * 2 ^ (r - min r (-1074)).toNat : Nat) : Int) ↔ _) ∧ ¬ ((c * 2 ^ (r - min r (-1074)).toNat : Nat) : Int) = 0
    exact ⟨⟨fun _ => rfl, fun _ => by omega⟩, by omega⟩
  · show ((0 : Int) ≤ -((c * 2 ^ (r - min r (-1074)).toNat : Nat) : Int) ↔ _) ∧ ¬ -((c * 2 ^ (r - min r (-1074)).toNat : Nat) : Int) = 0
    exact ⟨⟨fun z => by omega, fun z => by cases z⟩, by omega⟩
-- to a whole number
theorem d2l_v {x : UInt64} {s : Bool} {c n : Nat} {r : Int} (hx : FP.Core.val64 x = .fin s c r) (hn : c * 2 ^ r.toNat / 2 ^ (-r).toNat = n) (hb : n < 2 ^ 63) : FP.d2l x = Int64.ofInt (FP.Core.signed s n) := by
  show Int64.ofInt (FP.Core.toInt (-2 ^ 63) (2 ^ 63 - 1) (FP.Core.val64 x)) = _
  rw [hx]
  show Int64.ofInt (max (-2 ^ 63) (min (2 ^ 63 - 1) (FP.Core.signed s (c * 2 ^ r.toNat / 2 ^ (-r).toNat)))) = _
  rw [hn]
  congr 1
  cases s
  · show max (-2 ^ 63) (min (2 ^ 63 - 1) (n : Int)) = (n : Int)
    omega
  · show max (-2 ^ 63) (min (2 ^ 63 - 1) (-(n : Int))) = -(n : Int)
    omega
