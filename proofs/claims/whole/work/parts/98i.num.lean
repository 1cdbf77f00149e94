-- NUMBERS' BITS
theorem bt_nI (a i : Nat) : bt (nI a) i = (decide (i < 32) && a.testBit i) := by
  show (BitVec.ofNat 32 a).getLsbD i = _
  rw [BitVec.getLsbD_ofNat]
theorem us_N {a j : Nat} (ha : a < 2 ^ 31) (hj : j < 32) : ((nI a).toUInt32 >>> ((nI j).toUInt32 &&& Int32.toUInt32 31)).toInt32 = nI (a / 2 ^ j) := by
  apply b_ext
  intro i hi
  rw [b_ushr j hj, bt_nI, bt_nI, Nat.testBit_div_two_pow, decide_eq_true hi, Bool.true_and]
  by_cases c : j + i < 32
  · rw [decide_eq_true c, Bool.true_and, Nat.add_comm]
  · rw [decide_eq_false c, Bool.false_and, Nat.testBit_lt_two_pow (Nat.lt_of_lt_of_le ha (Nat.pow_le_pow_right (by decide) (by omega)))]
theorem L32 {n m : Nat} (hn : n < 2 ^ 31) (hm : m < 2 ^ 31) : (nI n < nI m) ↔ n < m := by
  rw [Int32.lt_iff_toInt_lt, nI_toInt (by omega), nI_toInt (by omega)]
  omega
theorem us_1 {a : Nat} (ha : a < 2 ^ 31) : ((Int32.toUInt32 (nI a)) >>> ((Int32.toUInt32 1) &&& Int32.toUInt32 31)).toInt32 = nI (a / 2) := us_N (j := 1) ha (by decide)
theorem us_2 {a : Nat} (ha : a < 2 ^ 31) : ((Int32.toUInt32 (nI a)) >>> ((Int32.toUInt32 2) &&& Int32.toUInt32 31)).toInt32 = nI (a / 4) := us_N (j := 2) ha (by decide)
theorem us_4 {a : Nat} (ha : a < 2 ^ 31) : ((Int32.toUInt32 (nI a)) >>> ((Int32.toUInt32 4) &&& Int32.toUInt32 31)).toInt32 = nI (a / 16) := us_N (j := 4) ha (by decide)
theorem us_8 {a : Nat} (ha : a < 2 ^ 31) : ((Int32.toUInt32 (nI a)) >>> ((Int32.toUInt32 8) &&& Int32.toUInt32 31)).toInt32 = nI (a / 256) := us_N (j := 8) ha (by decide)
theorem us_16 {a : Nat} (ha : a < 2 ^ 31) : ((Int32.toUInt32 (nI a)) >>> ((Int32.toUInt32 16) &&& Int32.toUInt32 31)).toInt32 = nI (a / 65536) := us_N (j := 16) ha (by decide)
theorem lt_4 {a : Nat} (ha : a < 2 ^ 31) : (nI a < 4) ↔ a < 4 := L32 (m := 4) ha (by decide)
theorem lt_16 {a : Nat} (ha : a < 2 ^ 31) : (nI a < 16) ↔ a < 16 := L32 (m := 16) ha (by decide)
theorem lt_256 {a : Nat} (ha : a < 2 ^ 31) : (nI a < 256) ↔ a < 256 := L32 (m := 256) ha (by decide)
theorem lt_65536 {a : Nat} (ha : a < 2 ^ 31) : (nI a < 65536) ↔ a < 65536 := L32 (m := 65536) ha (by decide)
theorem nlz_N {a : Nat} (h0 : 0 < a) (ha : a < 2 ^ 31) : sJ6_nlz (nI a) = nI (31 - a.log2) := by
  have hp : (0 : Int32) < nI a := (L32 (n := 0) (by decide) ha).mpr h0
  unfold sJ6_nlz
  rw [if_pos hp]
  by_cases h65536 : a < 65536
  · rw [if_pos ((lt_65536 (by omega)).mpr h65536)]
    by_cases h256 : a < 256
    · rw [if_pos ((lt_256 (by omega)).mpr h256)]
      by_cases h16 : a < 16
      · rw [if_pos ((lt_16 (by omega)).mpr h16)]
        by_cases h4 : a < 4
        · rw [if_pos ((lt_4 (by omega)).mpr h4)]
          rw [us_1 (by omega)]
          by_cases z : a / 2 = 0
          · rw [z, show a.log2 = 0 from (Nat.log2_eq_iff (by omega)).mpr (show 1 ≤ a ∧ a < 2 by omega)]
            rfl
          · rw [show a / 2 = 1 by omega, show a.log2 = 1 from (Nat.log2_eq_iff (by omega)).mpr (show 2 ≤ a ∧ a < 4 by omega)]
            rfl
        · rw [if_neg (fun z => h4 ((lt_4 (by omega)).mp z)), us_2 (by omega)]
          rw [us_1 (by omega)]
          by_cases z : (a / 4) / 2 = 0
          · rw [z, show a.log2 = 2 from (Nat.log2_eq_iff (by omega)).mpr (show 4 ≤ a ∧ a < 8 by omega)]
            rfl
          · rw [show (a / 4) / 2 = 1 by omega, show a.log2 = 3 from (Nat.log2_eq_iff (by omega)).mpr (show 8 ≤ a ∧ a < 16 by omega)]
            rfl
      · rw [if_neg (fun z => h16 ((lt_16 (by omega)).mp z)), us_4 (by omega)]
        by_cases h4 : (a / 16) < 4
        · rw [if_pos ((lt_4 (by omega)).mpr h4)]
          rw [us_1 (by omega)]
          by_cases z : (a / 16) / 2 = 0
          · rw [z, show a.log2 = 4 from (Nat.log2_eq_iff (by omega)).mpr (show 16 ≤ a ∧ a < 32 by omega)]
            rfl
          · rw [show (a / 16) / 2 = 1 by omega, show a.log2 = 5 from (Nat.log2_eq_iff (by omega)).mpr (show 32 ≤ a ∧ a < 64 by omega)]
            rfl
        · rw [if_neg (fun z => h4 ((lt_4 (by omega)).mp z)), us_2 (by omega)]
          rw [us_1 (by omega)]
          by_cases z : ((a / 16) / 4) / 2 = 0
          · rw [z, show a.log2 = 6 from (Nat.log2_eq_iff (by omega)).mpr (show 64 ≤ a ∧ a < 128 by omega)]
            rfl
          · rw [show ((a / 16) / 4) / 2 = 1 by omega, show a.log2 = 7 from (Nat.log2_eq_iff (by omega)).mpr (show 128 ≤ a ∧ a < 256 by omega)]
            rfl
    · rw [if_neg (fun z => h256 ((lt_256 (by omega)).mp z)), us_8 (by omega)]
      by_cases h16 : (a / 256) < 16
      · rw [if_pos ((lt_16 (by omega)).mpr h16)]
        by_cases h4 : (a / 256) < 4
        · rw [if_pos ((lt_4 (by omega)).mpr h4)]
          rw [us_1 (by omega)]
          by_cases z : (a / 256) / 2 = 0
          · rw [z, show a.log2 = 8 from (Nat.log2_eq_iff (by omega)).mpr (show 256 ≤ a ∧ a < 512 by omega)]
            rfl
          · rw [show (a / 256) / 2 = 1 by omega, show a.log2 = 9 from (Nat.log2_eq_iff (by omega)).mpr (show 512 ≤ a ∧ a < 1024 by omega)]
            rfl
        · rw [if_neg (fun z => h4 ((lt_4 (by omega)).mp z)), us_2 (by omega)]
          rw [us_1 (by omega)]
          by_cases z : ((a / 256) / 4) / 2 = 0
          · rw [z, show a.log2 = 10 from (Nat.log2_eq_iff (by omega)).mpr (show 1024 ≤ a ∧ a < 2048 by omega)]
            rfl
          · rw [show ((a / 256) / 4) / 2 = 1 by omega, show a.log2 = 11 from (Nat.log2_eq_iff (by omega)).mpr (show 2048 ≤ a ∧ a < 4096 by omega)]
            rfl
      · rw [if_neg (fun z => h16 ((lt_16 (by omega)).mp z)), us_4 (by omega)]
        by_cases h4 : ((a / 256) / 16) < 4
        · rw [if_pos ((lt_4 (by omega)).mpr h4)]
          rw [us_1 (by omega)]
          by_cases z : ((a / 256) / 16) / 2 = 0
          · rw [z, show a.log2 = 12 from (Nat.log2_eq_iff (by omega)).mpr (show 4096 ≤ a ∧ a < 8192 by omega)]
            rfl
          · rw [show ((a / 256) / 16) / 2 = 1 by omega, show a.log2 = 13 from (Nat.log2_eq_iff (by omega)).mpr (show 8192 ≤ a ∧ a < 16384 by omega)]
            rfl
        · rw [if_neg (fun z => h4 ((lt_4 (by omega)).mp z)), us_2 (by omega)]
          rw [us_1 (by omega)]
          by_cases z : (((a / 256) / 16) / 4) / 2 = 0
          · rw [z, show a.log2 = 14 from (Nat.log2_eq_iff (by omega)).mpr (show 16384 ≤ a ∧ a < 32768 by omega)]
            rfl
          · rw [show (((a / 256) / 16) / 4) / 2 = 1 by omega, show a.log2 = 15 from (Nat.log2_eq_iff (by omega)).mpr (show 32768 ≤ a ∧ a < 65536 by omega)]
            rfl
  · rw [if_neg (fun z => h65536 ((lt_65536 (by omega)).mp z)), us_16 (by omega)]
    by_cases h256 : (a / 65536) < 256
    · rw [if_pos ((lt_256 (by omega)).mpr h256)]
      by_cases h16 : (a / 65536) < 16
      · rw [if_pos ((lt_16 (by omega)).mpr h16)]
        by_cases h4 : (a / 65536) < 4
        · rw [if_pos ((lt_4 (by omega)).mpr h4)]
          rw [us_1 (by omega)]
          by_cases z : (a / 65536) / 2 = 0
          · rw [z, show a.log2 = 16 from (Nat.log2_eq_iff (by omega)).mpr (show 65536 ≤ a ∧ a < 131072 by omega)]
            rfl
          · rw [show (a / 65536) / 2 = 1 by omega, show a.log2 = 17 from (Nat.log2_eq_iff (by omega)).mpr (show 131072 ≤ a ∧ a < 262144 by omega)]
            rfl
        · rw [if_neg (fun z => h4 ((lt_4 (by omega)).mp z)), us_2 (by omega)]
          rw [us_1 (by omega)]
          by_cases z : ((a / 65536) / 4) / 2 = 0
          · rw [z, show a.log2 = 18 from (Nat.log2_eq_iff (by omega)).mpr (show 262144 ≤ a ∧ a < 524288 by omega)]
            rfl
          · rw [show ((a / 65536) / 4) / 2 = 1 by omega, show a.log2 = 19 from (Nat.log2_eq_iff (by omega)).mpr (show 524288 ≤ a ∧ a < 1048576 by omega)]
            rfl
      · rw [if_neg (fun z => h16 ((lt_16 (by omega)).mp z)), us_4 (by omega)]
        by_cases h4 : ((a / 65536) / 16) < 4
        · rw [if_pos ((lt_4 (by omega)).mpr h4)]
          rw [us_1 (by omega)]
          by_cases z : ((a / 65536) / 16) / 2 = 0
          · rw [z, show a.log2 = 20 from (Nat.log2_eq_iff (by omega)).mpr (show 1048576 ≤ a ∧ a < 2097152 by omega)]
            rfl
          · rw [show ((a / 65536) / 16) / 2 = 1 by omega, show a.log2 = 21 from (Nat.log2_eq_iff (by omega)).mpr (show 2097152 ≤ a ∧ a < 4194304 by omega)]
            rfl
        · rw [if_neg (fun z => h4 ((lt_4 (by omega)).mp z)), us_2 (by omega)]
          rw [us_1 (by omega)]
          by_cases z : (((a / 65536) / 16) / 4) / 2 = 0
          · rw [z, show a.log2 = 22 from (Nat.log2_eq_iff (by omega)).mpr (show 4194304 ≤ a ∧ a < 8388608 by omega)]
            rfl
          · rw [show (((a / 65536) / 16) / 4) / 2 = 1 by omega, show a.log2 = 23 from (Nat.log2_eq_iff (by omega)).mpr (show 8388608 ≤ a ∧ a < 16777216 by omega)]
            rfl
    · rw [if_neg (fun z => h256 ((lt_256 (by omega)).mp z)), us_8 (by omega)]
      by_cases h16 : ((a / 65536) / 256) < 16
      · rw [if_pos ((lt_16 (by omega)).mpr h16)]
        by_cases h4 : ((a / 65536) / 256) < 4
        · rw [if_pos ((lt_4 (by omega)).mpr h4)]
          rw [us_1 (by omega)]
          by_cases z : ((a / 65536) / 256) / 2 = 0
          · rw [z, show a.log2 = 24 from (Nat.log2_eq_iff (by omega)).mpr (show 16777216 ≤ a ∧ a < 33554432 by omega)]
            rfl
          · rw [show ((a / 65536) / 256) / 2 = 1 by omega, show a.log2 = 25 from (Nat.log2_eq_iff (by omega)).mpr (show 33554432 ≤ a ∧ a < 67108864 by omega)]
            rfl
        · rw [if_neg (fun z => h4 ((lt_4 (by omega)).mp z)), us_2 (by omega)]
          rw [us_1 (by omega)]
          by_cases z : (((a / 65536) / 256) / 4) / 2 = 0
          · rw [z, show a.log2 = 26 from (Nat.log2_eq_iff (by omega)).mpr (show 67108864 ≤ a ∧ a < 134217728 by omega)]
            rfl
          · rw [show (((a / 65536) / 256) / 4) / 2 = 1 by omega, show a.log2 = 27 from (Nat.log2_eq_iff (by omega)).mpr (show 134217728 ≤ a ∧ a < 268435456 by omega)]
            rfl
      · rw [if_neg (fun z => h16 ((lt_16 (by omega)).mp z)), us_4 (by omega)]
        by_cases h4 : (((a / 65536) / 256) / 16) < 4
        · rw [if_pos ((lt_4 (by omega)).mpr h4)]
          rw [us_1 (by omega)]
          by_cases z : (((a / 65536) / 256) / 16) / 2 = 0
          · rw [z, show a.log2 = 28 from (Nat.log2_eq_iff (by omega)).mpr (show 268435456 ≤ a ∧ a < 536870912 by omega)]
            rfl
          · rw [show (((a / 65536) / 256) / 16) / 2 = 1 by omega, show a.log2 = 29 from (Nat.log2_eq_iff (by omega)).mpr (show 536870912 ≤ a ∧ a < 1073741824 by omega)]
            rfl
        · rw [if_neg (fun z => h4 ((lt_4 (by omega)).mp z)), us_2 (by omega)]
          rw [us_1 (by omega)]
          by_cases z : ((((a / 65536) / 256) / 16) / 4) / 2 = 0
          · rw [z, show a.log2 = 30 from (Nat.log2_eq_iff (by omega)).mpr (show 1073741824 ≤ a ∧ a < 2147483648 by omega)]
            rfl
          · rw [show ((((a / 65536) / 256) / 16) / 4) / 2 = 1 by omega, show a.log2 = 31 from (Nat.log2_eq_iff (by omega)).mpr (show 2147483648 ≤ a ∧ a < 4294967296 by omega)]
            rfl
def gtz (y : Int32) : Int32 := (if 0 < y then (if y ≤ 65536 then (if y ≤ 256 then (if y ≤ 16 then (if y ≤ 4 then 1 + (((Int32.toUInt32 y) >>> ((Int32.toUInt32 1) &&& Int32.toUInt32 31)).toInt32) else 3 + (((Int32.toUInt32 (((Int32.toUInt32 y) >>> ((Int32.toUInt32 2) &&& Int32.toUInt32 31)).toInt32)) >>> ((Int32.toUInt32 1) &&& Int32.toUInt32 31)).toInt32)) else (if (((Int32.toUInt32 y) >>> ((Int32.toUInt32 4) &&& Int32.toUInt32 31)).toInt32) ≤ 4 then 5 + (((Int32.toUInt32 (((Int32.toUInt32 y) >>> ((Int32.toUInt32 4) &&& Int32.toUInt32 31)).toInt32)) >>> ((Int32.toUInt32 1) &&& Int32.toUInt32 31)).toInt32) else 7 + (((Int32.toUInt32 (((Int32.toUInt32 (((Int32.toUInt32 y) >>> ((Int32.toUInt32 4) &&& Int32.toUInt32 31)).toInt32)) >>> ((Int32.toUInt32 2) &&& Int32.toUInt32 31)).toInt32)) >>> ((Int32.toUInt32 1) &&& Int32.toUInt32 31)).toInt32))) else (if (((Int32.toUInt32 y) >>> ((Int32.toUInt32 8) &&& Int32.toUInt32 31)).toInt32) ≤ 16 then (if (((Int32.toUInt32 y) >>> ((Int32.toUInt32 8) &&& Int32.toUInt32 31)).toInt32) ≤ 4 then 9 + (((Int32.toUInt32 (((Int32.toUInt32 y) >>> ((Int32.toUInt32 8) &&& Int32.toUInt32 31)).toInt32)) >>> ((Int32.toUInt32 1) &&& Int32.toUInt32 31)).toInt32) else 11 + (((Int32.toUInt32 (((Int32.toUInt32 (((Int32.toUInt32 y) >>> ((Int32.toUInt32 8) &&& Int32.toUInt32 31)).toInt32)) >>> ((Int32.toUInt32 2) &&& Int32.toUInt32 31)).toInt32)) >>> ((Int32.toUInt32 1) &&& Int32.toUInt32 31)).toInt32)) else (if (((Int32.toUInt32 (((Int32.toUInt32 y) >>> ((Int32.toUInt32 8) &&& Int32.toUInt32 31)).toInt32)) >>> ((Int32.toUInt32 4) &&& Int32.toUInt32 31)).toInt32) ≤ 4 then 13 + (((Int32.toUInt32 (((Int32.toUInt32 (((Int32.toUInt32 y) >>> ((Int32.toUInt32 8) &&& Int32.toUInt32 31)).toInt32)) >>> ((Int32.toUInt32 4) &&& Int32.toUInt32 31)).toInt32)) >>> ((Int32.toUInt32 1) &&& Int32.toUInt32 31)).toInt32) else 15 + (((Int32.toUInt32 (((Int32.toUInt32 (((Int32.toUInt32 (((Int32.toUInt32 y) >>> ((Int32.toUInt32 8) &&& Int32.toUInt32 31)).toInt32)) >>> ((Int32.toUInt32 4) &&& Int32.toUInt32 31)).toInt32)) >>> ((Int32.toUInt32 2) &&& Int32.toUInt32 31)).toInt32)) >>> ((Int32.toUInt32 1) &&& Int32.toUInt32 31)).toInt32)))) else (if (((Int32.toUInt32 y) >>> ((Int32.toUInt32 16) &&& Int32.toUInt32 31)).toInt32) ≤ 256 then (if (((Int32.toUInt32 y) >>> ((Int32.toUInt32 16) &&& Int32.toUInt32 31)).toInt32) ≤ 16 then (if (((Int32.toUInt32 y) >>> ((Int32.toUInt32 16) &&& Int32.toUInt32 31)).toInt32) ≤ 4 then 17 + (((Int32.toUInt32 (((Int32.toUInt32 y) >>> ((Int32.toUInt32 16) &&& Int32.toUInt32 31)).toInt32)) >>> ((Int32.toUInt32 1) &&& Int32.toUInt32 31)).toInt32) else 19 + (((Int32.toUInt32 (((Int32.toUInt32 (((Int32.toUInt32 y) >>> ((Int32.toUInt32 16) &&& Int32.toUInt32 31)).toInt32)) >>> ((Int32.toUInt32 2) &&& Int32.toUInt32 31)).toInt32)) >>> ((Int32.toUInt32 1) &&& Int32.toUInt32 31)).toInt32)) else (if (((Int32.toUInt32 (((Int32.toUInt32 y) >>> ((Int32.toUInt32 16) &&& Int32.toUInt32 31)).toInt32)) >>> ((Int32.toUInt32 4) &&& Int32.toUInt32 31)).toInt32) ≤ 4 then 21 + (((Int32.toUInt32 (((Int32.toUInt32 (((Int32.toUInt32 y) >>> ((Int32.toUInt32 16) &&& Int32.toUInt32 31)).toInt32)) >>> ((Int32.toUInt32 4) &&& Int32.toUInt32 31)).toInt32)) >>> ((Int32.toUInt32 1) &&& Int32.toUInt32 31)).toInt32) else 23 + (((Int32.toUInt32 (((Int32.toUInt32 (((Int32.toUInt32 (((Int32.toUInt32 y) >>> ((Int32.toUInt32 16) &&& Int32.toUInt32 31)).toInt32)) >>> ((Int32.toUInt32 4) &&& Int32.toUInt32 31)).toInt32)) >>> ((Int32.toUInt32 2) &&& Int32.toUInt32 31)).toInt32)) >>> ((Int32.toUInt32 1) &&& Int32.toUInt32 31)).toInt32))) else (if (((Int32.toUInt32 (((Int32.toUInt32 y) >>> ((Int32.toUInt32 16) &&& Int32.toUInt32 31)).toInt32)) >>> ((Int32.toUInt32 8) &&& Int32.toUInt32 31)).toInt32) ≤ 16 then (if (((Int32.toUInt32 (((Int32.toUInt32 y) >>> ((Int32.toUInt32 16) &&& Int32.toUInt32 31)).toInt32)) >>> ((Int32.toUInt32 8) &&& Int32.toUInt32 31)).toInt32) ≤ 4 then 25 + (((Int32.toUInt32 (((Int32.toUInt32 (((Int32.toUInt32 y) >>> ((Int32.toUInt32 16) &&& Int32.toUInt32 31)).toInt32)) >>> ((Int32.toUInt32 8) &&& Int32.toUInt32 31)).toInt32)) >>> ((Int32.toUInt32 1) &&& Int32.toUInt32 31)).toInt32) else 27 + (((Int32.toUInt32 (((Int32.toUInt32 (((Int32.toUInt32 (((Int32.toUInt32 y) >>> ((Int32.toUInt32 16) &&& Int32.toUInt32 31)).toInt32)) >>> ((Int32.toUInt32 8) &&& Int32.toUInt32 31)).toInt32)) >>> ((Int32.toUInt32 2) &&& Int32.toUInt32 31)).toInt32)) >>> ((Int32.toUInt32 1) &&& Int32.toUInt32 31)).toInt32)) else (if (((Int32.toUInt32 (((Int32.toUInt32 (((Int32.toUInt32 y) >>> ((Int32.toUInt32 16) &&& Int32.toUInt32 31)).toInt32)) >>> ((Int32.toUInt32 8) &&& Int32.toUInt32 31)).toInt32)) >>> ((Int32.toUInt32 4) &&& Int32.toUInt32 31)).toInt32) ≤ 4 then 29 + (((Int32.toUInt32 (((Int32.toUInt32 (((Int32.toUInt32 (((Int32.toUInt32 y) >>> ((Int32.toUInt32 16) &&& Int32.toUInt32 31)).toInt32)) >>> ((Int32.toUInt32 8) &&& Int32.toUInt32 31)).toInt32)) >>> ((Int32.toUInt32 4) &&& Int32.toUInt32 31)).toInt32)) >>> ((Int32.toUInt32 1) &&& Int32.toUInt32 31)).toInt32) else 31 + (((Int32.toUInt32 (((Int32.toUInt32 (((Int32.toUInt32 (((Int32.toUInt32 (((Int32.toUInt32 y) >>> ((Int32.toUInt32 16) &&& Int32.toUInt32 31)).toInt32)) >>> ((Int32.toUInt32 8) &&& Int32.toUInt32 31)).toInt32)) >>> ((Int32.toUInt32 4) &&& Int32.toUInt32 31)).toInt32)) >>> ((Int32.toUInt32 2) &&& Int32.toUInt32 31)).toInt32)) >>> ((Int32.toUInt32 1) &&& Int32.toUInt32 31)).toInt32))))) else y &&& 32)
theorem gtz_eq (x : Int32) : sJ6_ntz x = gtz ((x ^^^ (-1)) &&& (x - 1)) := rfl
theorem gtz_N : ∀ t, t < 32 → gtz (nI (2 ^ t - 1)) = nI t := by decide +kernel
theorem ntz_y (b t : Nat) (ht : t < 32) : (nI ((2 * b + 1) * 2 ^ t) ^^^ (-1)) &&& (nI ((2 * b + 1) * 2 ^ t) - 1) = nI (2 ^ t - 1) := by
  have hp := Nat.two_pow_pos t
  have e : nI ((2 * b + 1) * 2 ^ t) - 1 = nI ((2 * b) * 2 ^ t + (2 ^ t - 1)) := by
    have e1 : (2 * b + 1) * 2 ^ t = (2 * b) * 2 ^ t + (2 ^ t - 1) + 1 := by rw [Nat.add_mul, Nat.one_mul]; omega
    rw [e1, ← nI_add]
    show _ + 1 - 1 = _
    rw [Int32.add_sub_cancel]
  rw [e]
  apply b_ext
  intro i hi
  rw [b_and, b_xor, b_m1 i hi, bt_nI, bt_nI, bt_nI, decide_eq_true hi, Bool.true_and, Bool.true_and, Bool.true_and, Nat.testBit_two_pow_sub_one, Nat.mul_comm (2 * b + 1), Nat.mul_comm (2 * b), Nat.testBit_two_pow_mul, Nat.testBit_two_pow_mul_add _ (show 2 ^ t - 1 < 2 ^ t by omega), Nat.testBit_two_pow_sub_one]
  by_cases c : i < t
  · rw [if_pos c, decide_eq_true c, decide_eq_false (by omega : ¬ t ≤ i)]; rfl
  · rw [if_neg c, decide_eq_false c, decide_eq_true (by omega : t ≤ i), Bool.true_and]
    by_cases d : i = t
    · subst d
      rw [Nat.sub_self, Nat.testBit_zero, Nat.testBit_zero, decide_eq_true (by omega : (2 * b + 1) % 2 = 1)]; rfl
    · obtain ⟨j, hj⟩ : ∃ j, i - t = j + 1 := ⟨i - t - 1, by omega⟩
      rw [hj, Nat.testBit_succ, Nat.testBit_succ, show (2 * b + 1) / 2 = b by omega, show 2 * b / 2 = b by omega]
      cases b.testBit j <;> rfl
theorem ntz_N (b t : Nat) (ht : t < 32) : sJ6_ntz (nI ((2 * b + 1) * 2 ^ t)) = nI t := by
  rw [gtz_eq, ntz_y b t ht, gtz_N t ht]
-- longs
theorem l2i_N (n : Nat) : Int64.toInt32 (lN n) = nI n := by
  apply Int32.toBitVec_inj.mp
  show (BitVec.ofNat 64 n).signExtend 32 = BitVec.ofNat 32 n
  apply BitVec.eq_of_getLsbD_eq
  intro i hi
  rw [BitVec.getLsbD_signExtend, if_pos (by omega), BitVec.getLsbD_ofNat, BitVec.getLsbD_ofNat, decide_eq_true hi, decide_eq_true (by omega)]
  rfl
theorem u32 {n : Nat} (hn : n < 2 ^ 64) : (Int64.toInt32 (((Int64.toUInt64 (lN n)) >>> ((Int32.toInt64 32).toUInt64 &&& Int64.toUInt64 63)).toInt64)) = nI (n / 4294967296) := by
  rw [show ((Int64.toUInt64 (lN n)) >>> ((Int32.toInt64 32).toUInt64 &&& Int64.toUInt64 63)).toInt64 = lN (n / 4294967296) from wb_shr (k := 32) hn (by decide), l2i_N]
theorem nI_00 {n : Nat} (hn : n < 2 ^ 32) : nI n = 0 ↔ n = 0 := by
  constructor
  · intro h
    have h1 : BitVec.ofNat 32 n = BitVec.ofNat 32 0 := congrArg Int32.toBitVec h
    have h2 := congrArg BitVec.toNat h1
    rw [BitVec.toNat_ofNat, BitVec.toNat_ofNat, Nat.mod_eq_of_lt hn] at h2
    exact h2
  · intro h; rw [h]; rfl
theorem nlzL_N {n : Nat} (h0 : 0 < n) (hn : n < 2 ^ 63) : sJ13_nlz (lN n) = nI (63 - n.log2) := by
  unfold sJ13_nlz
  rw [u32 (by omega), l2i_N]
  by_cases c : n / 4294967296 = 0
  · rw [if_pos (by rw [c]; rfl)]
    by_cases d : n < 2147483648
    · rw [nlz_N h0 d]
      have hl : n.log2 < 31 := (Nat.log2_lt (by omega)).mpr d
      show nI 32 + nI (31 - n.log2) = _
      rw [nI_add]
      congr 1
      omega
    · have e1 : ¬ (0 : Int32) < nI n := by
        intro z
        have := Int32.lt_iff_toInt_lt.mp z
        have e : (nI n).toInt = (n : Int) - 4294967296 := by
          show (BitVec.ofNat 32 n).toInt = _
          rw [BitVec.toInt_eq_toNat_bmod, BitVec.toNat_ofNat, Int.bmod_def]
          omega
        have e0 : (0 : Int32).toInt = 0 := rfl
        omega
      have e2 : ¬ nI n = 0 := fun z => by have := (nI_00 (by omega)).mp z; omega
      unfold sJ6_nlz
      rw [if_neg e1, if_neg e2, show n.log2 = 31 from (Nat.log2_eq_iff (by omega)).mpr (show 2147483648 ≤ n ∧ n < 4294967296 by omega)]
      rfl
  · rw [if_neg (fun z => c ((nI_00 (by omega)).mp z)), nlz_N (by omega) (by omega)]
    congr 1
    have hl : n.log2 = (n / 4294967296).log2 + 32 := by
      have l1 := Nat.log2_self_le (n := n / 4294967296) (by omega)
      have l2 := Nat.lt_log2_self (n := n / 4294967296)
      refine (Nat.log2_eq_iff (by omega)).mpr ⟨?_, ?_⟩
      · rw [Nat.pow_add, show 2 ^ 32 = 4294967296 from rfl]
        have := Nat.mul_le_mul_right 4294967296 l1
        omega
      · rw [show (n / 4294967296).log2 + 32 + 1 = (n / 4294967296).log2 + 1 + 32 by omega, Nat.pow_add, show 2 ^ 32 = 4294967296 from rfl]
        have := Nat.mul_le_mul_right 4294967296 (Nat.succ_le_of_lt l2)
        omega
    have hl2 : (n / 4294967296).log2 < 31 := (Nat.log2_lt (by omega)).mpr (show n / 4294967296 < 2147483648 by omega)
    omega
theorem ntzL_N {b t n : Nat} (ht : t < 64) (hn : n = (2 * b + 1) * 2 ^ t) (hn2 : n < 2 ^ 64) : sJ13_ntz (lN n) = nI t := by
  unfold sJ13_ntz
  rw [u32 hn2, l2i_N]
  by_cases c : t < 32
  · have hne : ¬ nI n = 0 := by
      intro z
      have h1 : bt (nI n) t = false := by rw [z]; exact b_0 t
      rw [bt_nI, decide_eq_true c, Bool.true_and, hn, Nat.mul_comm, Nat.testBit_two_pow_mul, decide_eq_true (Nat.le_refl t), Nat.sub_self, Nat.testBit_zero, decide_eq_true (by omega : (2 * b + 1) % 2 = 1)] at h1
      cases h1
    rw [if_neg hne, hn, ntz_N b t c]
  · have e : n = (2 * b + 1) * 2 ^ (t - 32) * 4294967296 := by
      rw [hn, Nat.mul_assoc]
      congr 1
      rw [show (4294967296 : Nat) = 2 ^ 32 from rfl, ← Nat.pow_add]
      congr 1
      omega
    have e2 : nI n = 0 := by
      apply Int32.toBitVec_inj.mp
      show BitVec.ofNat 32 n = BitVec.ofNat 32 0
      apply BitVec.eq_of_toNat_eq
      rw [BitVec.toNat_ofNat, BitVec.toNat_ofNat, e]
      omega
    rw [if_pos e2, show n / 4294967296 = (2 * b + 1) * 2 ^ (t - 32) by omega, ntz_N b (t - 32) (by omega)]
    show nI 32 + nI (t - 32) = nI t
    rw [nI_add]
    congr 1
    omega
-- odd part
theorem odd_ex : ∀ (f n : Nat), 0 < n → n < 2 ^ f → ∃ b t, t < f ∧ n = (2 * b + 1) * 2 ^ t
  | 0, n, h, h2 => by simp at h2; omega
  | f + 1, n, h, h2 => by
    by_cases c : n % 2 = 1
    · exact ⟨n / 2, 0, by omega, by rw [Nat.pow_zero]; omega⟩
    · obtain ⟨b, t, h3, h4⟩ := odd_ex f (n / 2) (by omega) (by rw [Nat.pow_succ] at h2; omega)
      refine ⟨b, t + 1, by omega, ?_⟩
      rw [Nat.pow_succ, ← Nat.mul_assoc, ← h4]
      omega
theorem odd_un {a b s t : Nat} (h : (2 * a + 1) * 2 ^ s = (2 * b + 1) * 2 ^ t) : a = b ∧ s = t := by
  have key : ∀ {a b s t : Nat}, (2 * a + 1) * 2 ^ s = (2 * b + 1) * 2 ^ t → s ≤ t → a = b ∧ s = t := by
    intro a b s t h hst
    have e : 2 ^ t = 2 ^ (t - s) * 2 ^ s := by rw [← Nat.pow_add]; congr 1; omega
    rw [e, ← Nat.mul_assoc] at h
    have h2 := Nat.eq_of_mul_eq_mul_right (Nat.two_pow_pos s) h
    by_cases c : t - s = 0
    · rw [c, Nat.pow_zero, Nat.mul_one] at h2; omega
    · exfalso
      rw [show t - s = (t - s - 1) + 1 by omega, Nat.pow_succ, ← Nat.mul_assoc] at h2
      omega
  rcases Nat.le_total s t with c | c
  · exact key h c
  · obtain ⟨h1, h2⟩ := key h.symm c
    exact ⟨h1.symm, h2.symm⟩
