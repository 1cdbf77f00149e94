-- THE REFERENCE: isFraction
def bl (x : Nat) : Nat := if x = 0 then 0 else x.log2 + 1
theorem bl_h {x : Nat} (h : 0 < x) : bl x = bl (x / 2) + 1 := by
  unfold bl
  rw [if_neg (by omega)]
  by_cases c : x / 2 = 0
  · rw [if_pos c]
    obtain rfl : x = 1 := by omega
    decide
  · rw [if_neg c, Nat.log2_def x, if_pos (by omega)]
theorem neg_toI {n : Nat} (h : n < 2 ^ 63) : (-(lN n)).toInt = -(n : Int) := by
  rw [Int64.toInt_neg, pf_lI h]
  apply Int.bmod_eq_of_le <;> omega
theorem rem_n {n : Nat} (h : n < 2 ^ 63) : (-(lN n)) - (-(lN n)) / 2 * 2 = -(lN (n % 2)) := by
  have e : (-(lN n)) / 2 = -(lN (n / 2)) := by
    apply Int64.toInt_inj.mp
    rw [Int64.toInt_div, neg_toI h, neg_toI (by omega)]
    have e2 : (2 : Int64).toInt = 2 := rfl
    rw [e2, Int.neg_tdiv]
    have e3 : (n : Int).tdiv 2 = ((n / 2 : Nat) : Int) := rfl
    rw [e3]
    apply Int.bmod_eq_of_le <;> omega
  rw [e]
  apply Int64.toInt_inj.mp
  have e4 : -(lN (n / 2)) * 2 = -(lN (n / 2 * 2)) := by
    apply Int64.toInt_inj.mp
    rw [Int64.toInt_mul, neg_toI (by omega), neg_toI (by omega)]
    have e2 : (2 : Int64).toInt = 2 := rfl
    rw [e2, Int.bmod_eq_of_le (by omega) (by omega)]
    omega
  rw [e4, Int64.toInt_sub, neg_toI h, neg_toI (by omega), neg_toI (by omega), Int.bmod_eq_of_le (by omega) (by omega)]
  omega
theorem rem_p {n : Nat} (h : n < 2 ^ 63) : lN n - lN n / 2 * 2 = lN (n % 2) := by
  have e : lN n / 2 = lN (n / 2) := by
    apply Int64.toInt_inj.mp
    rw [Int64.toInt_div, pf_lI h, pf_lI (by omega)]
    have e2 : (2 : Int64).toInt = 2 := rfl
    rw [e2]
    have e3 : (n : Int).tdiv 2 = ((n / 2 : Nat) : Int) := rfl
    rw [e3]
    apply Int.bmod_eq_of_le <;> omega
  rw [e]
  have e4 : lN (n / 2) * 2 = lN (n / 2 * 2) := (Int64.ofNat_mul (n / 2) 2).symm
  rw [e4, lN_sb (by omega)]
  exact congrArg lN (by omega)
theorem zr_iff {n : Nat} : (-(lN (n % 2)) = (0 : Int64)) ↔ n % 2 = 0 := by
  rcases Nat.mod_two_eq_zero_or_one n with q | q <;> rw [q] <;> decide
theorem pr_iff {n : Nat} : (lN (n % 2) = (0 : Int64)) ↔ n % 2 = 0 := by
  rcases Nat.mod_two_eq_zero_or_one n with q | q <;> rw [q] <;> decide
/-- what isFraction finds out about a number n with a sign -/
def zF (s : Bool) (n : Nat) (z : Int64) : Prop := (¬ z = 0) ∧ ((z - z / 2 * 2 = 0) ↔ n % 2 = 0) ∧ (∀ b, b < 2 ^ 63 → (lN b ≤ z ↔ s = false ∧ b ≤ n)) ∧ (∀ b, b < 2 ^ 63 → 0 < b → (-(lN b) < z ↔ s = false ∨ n < b)) ∧ (0 ≤ z ↔ s = false) ∧ (s = true → -z = lN n) ∧ (s = false → z = lN n)
theorem zF_of (s : Bool) {n : Nat} (h0 : 0 < n) (h : n < 2 ^ 63) : zF s n (Int64.ofInt (FP.Core.signed s n)) := by
  obtain ⟨z1, z2, z3⟩ := lN_n0 h0 h
  cases s with
  | false =>
    rw [sgn_f]
    refine ⟨z1, by rw [rem_p h]; exact pr_iff, fun b hb => ?_, fun b hb hb0 => ?_, ⟨fun _ => rfl, fun _ => lN_lt0 h⟩, fun z => (by cases z), fun _ => rfl⟩
    · rw [Int64.le_iff_toInt_le, pf_lI hb, pf_lI h]
      exact ⟨fun z => ⟨rfl, by omega⟩, fun z => by have := z.2; omega⟩
    · rw [Int64.lt_iff_toInt_lt, neg_toI hb, pf_lI h]
      exact ⟨fun _ => Or.inl rfl, fun _ => by omega⟩
  | true =>
    rw [sgn_t]
    refine ⟨z2, by rw [rem_n h]; exact zr_iff, fun b hb => ?_, fun b hb hb0 => ?_, ⟨fun z => absurd z z3, fun z => (by cases z)⟩, fun _ => Int64.neg_neg, fun z => (by cases z)⟩
    · rw [Int64.le_iff_toInt_le, pf_lI hb, neg_toI h]
      exact ⟨fun z => by omega, fun z => (by cases z.1)⟩
    · rw [Int64.lt_iff_toInt_lt, neg_toI hb, neg_toI h]
      exact ⟨fun z => Or.inr (by omega), fun z => by rcases z with z | z; cases z; omega⟩
theorem lp_if {d : Nat} {M : xM} {e : Nat} {x0 : Int32} {b z : Int64} {post : Option Value → xM → Prop} : ∀ f x w, x < 2 ^ f → f ≤ 63 → AW (fX6_isFraction d) 104 [(8, .int (nI (w + bl x))), (6, .long (lN 0)), (4, .long b), (0, .int x0), (1, .int (nI e)), (2, .long z)] [] M 0 0 post → AW (fX6_isFraction d) 83 [(8, .int (nI w)), (6, .long (lN x)), (4, .long b), (0, .int x0), (1, .int (nI e)), (2, .long z)] [] M 0 0 post := by
  intro f
  induction f with
  | zero =>
    intro x w hx hf k
    obtain rfl : x = 0 := by have : x < 1 := hx; omega
    rw [show bl 0 = 0 from rfl, Nat.add_zero] at k
    refine aw_lload dX6_isFraction_83 1 rfl ?_
    refine aw_lconst (v := 0) dX6_isFraction_85 (by decide) ?_
    refine aw_lleN 0 0 104 dX6_isFraction_86 dX6_isFraction_87 (by decide) rfl rfl (by omega) (by omega) (fun c1 => ?_) (fun c1 => absurd (by omega) c1)
    exact k
  | succ f ih =>
    intro x w hx hf k
    have hx63 : x < 2 ^ 63 := Nat.lt_of_lt_of_le hx (Nat.pow_le_pow_right (by decide) hf)
    by_cases c : x = 0
    · subst c
      rw [show bl 0 = 0 from rfl, Nat.add_zero] at k
      refine aw_lload dX6_isFraction_83 1 rfl ?_
      refine aw_lconst (v := 0) dX6_isFraction_85 (by decide) ?_
      refine aw_lleN 0 0 104 dX6_isFraction_86 dX6_isFraction_87 (by decide) rfl rfl (by omega) (by omega) (fun c1 => ?_) (fun c1 => absurd (by omega) c1)
      exact k
    · rw [bl_h (by omega), ← Nat.add_assoc, Nat.add_right_comm] at k
      have g := ih (x / 2) (w + 1) (by rw [Nat.pow_succ] at hx; omega) (by omega) k
      refine aw_lload dX6_isFraction_83 1 rfl ?_
      refine aw_lconst (v := 0) dX6_isFraction_85 (by decide) ?_
      refine aw_lleN x 0 104 dX6_isFraction_86 dX6_isFraction_87 (by decide) rfl rfl (by omega) (by omega) (fun c1 => absurd c1 (by omega)) (fun c1 => ?_)
      refine aw_lload dX6_isFraction_90 1 rfl ?_
      refine aw_ldc2 dX6_isFraction_92 kc_X6_304 ?_
      refine aw_ldivN x 2 dX6_isFraction_95 rfl rfl (by omega) (by first | decide | omega) (by first | decide | omega) ?_
      refine aw_lstore [(6, .long (lN (x / 2))), (8, .int (nI w)), (4, .long b), (0, .int x0), (1, .int (nI e)), (2, .long z)] dX6_isFraction_96 (Nat.le_of_ble_eq_true rfl) rfl ?_
      refine aw_iincN w 1 [(8, .int (nI (w + 1))), (6, .long (lN (x / 2))), (4, .long b), (0, .int x0), (1, .int (nI e)), (2, .long z)] dX6_isFraction_98 1 rfl rfl rfl (Nat.le_of_ble_eq_true rfl) rfl ?_
      refine aw_goto 83 dX6_isFraction_101 (by decide) ?_
      exact g
theorem sp_if6 {d : Nat} {M : xM} {n e : Nat} {z : Int64} (s : Bool) (h0 : 0 < n) (hn : n < 2 ^ 63) (he : e < 256) (hz : zF s n z) : Sp (fX6_isFraction d) [.int (nI 6), .int (nI e), .long z] M (dt (some (.int (bz (scB 6 n e)))) M) := by
  refine Sp.of pn_X6 (Nat.le_of_ble_eq_true rfl) (fun h => Bool.noConfusion h) ?_
  have ebl : bl n = n.log2 + 1 := if_neg (by omega)
  have hl : n.log2 < 63 := (Nat.log2_lt (by omega)).mpr hn
  have h1l : n.log2 = 0 → n = 1 := fun q => by have := (Nat.log2_lt (n := n) (k := 1) (by omega)).mp (by omega); omega
  have hl1 : n = 1 → n.log2 = 0 := fun q => by rw [q]; decide
  by_cases c6 : e ≤ 66
  · by_cases co : n % 2 = 0
    · rw [show scB 6 n e = false from decide_eq_false (fun z => by have := z.1; omega)]
      show AW _ 0 _ _ M 0 0 (dt (some (.int 0)) M)
      cases s with
      | false =>
        refine aw_iload_n dX6_isFraction_0 0 rfl ?_
        refine aw_bipush (v := 6) dX6_isFraction_1 (by decide) ?_
        refine aw_icmp_neN 6 6 12 dX6_isFraction_3 (by decide) rfl rfl (by omega) (by omega) (fun c1 => absurd rfl c1) (fun c1 => ?_)
        refine aw_ldc2 dX6_isFraction_6 kc_X6_300 ?_
        refine aw_goto 15 dX6_isFraction_9 (by decide) ?_
        refine aw_lstore [(4, .long 16777216), (0, .int (nI 6)), (1, .int (nI e)), (2, .long z)] dX6_isFraction_15 (Nat.le_of_ble_eq_true rfl) rfl ?_
        refine aw_lload_n dX6_isFraction_17 3 rfl ?_
        refine aw_lconst (v := 0) dX6_isFraction_18 (by decide) ?_
        refine aw_lne 33 dX6_isFraction_19 dX6_isFraction_20 (by decide) (fun c2 => ?_) (fun c2 => absurd c2 hz.1)
        refine aw_iload_n dX6_isFraction_33 2 rfl ?_
        refine aw_bipush (v := 66) dX6_isFraction_34 (by decide) ?_
        refine aw_icmp_gtN e 66 64 dX6_isFraction_36 (by decide) rfl rfl (by omega) (by omega) (fun c3 => absurd c3 (by omega)) (fun c3 => ?_)
        refine aw_lload_n dX6_isFraction_39 3 rfl ?_
        refine aw_ldc2 dX6_isFraction_40 kc_X6_304 ?_
        refine aw_lrem dX6_isFraction_43 (by decide) ?_
        refine aw_lconst (v := 0) dX6_isFraction_44 (by decide) ?_
        refine aw_leq 64 dX6_isFraction_45 dX6_isFraction_46 (by decide) (fun c4 => ?_) (fun c4 => absurd (hz.2.1.mpr co) c4)
        refine aw_iconst (v := 0) dX6_isFraction_64 (by decide) ?_
        refine aw_zret dX6_isFraction_65 rfl rfl (Nat.zero_le _) (Nat.zero_le _) ?_
        exact ⟨rfl, rfl⟩
      | true =>
        refine aw_iload_n dX6_isFraction_0 0 rfl ?_
        refine aw_bipush (v := 6) dX6_isFraction_1 (by decide) ?_
        refine aw_icmp_neN 6 6 12 dX6_isFraction_3 (by decide) rfl rfl (by omega) (by omega) (fun c1 => absurd rfl c1) (fun c1 => ?_)
        refine aw_ldc2 dX6_isFraction_6 kc_X6_300 ?_
        refine aw_goto 15 dX6_isFraction_9 (by decide) ?_
        refine aw_lstore [(4, .long 16777216), (0, .int (nI 6)), (1, .int (nI e)), (2, .long z)] dX6_isFraction_15 (Nat.le_of_ble_eq_true rfl) rfl ?_
        refine aw_lload_n dX6_isFraction_17 3 rfl ?_
        refine aw_lconst (v := 0) dX6_isFraction_18 (by decide) ?_
        refine aw_lne 33 dX6_isFraction_19 dX6_isFraction_20 (by decide) (fun c2 => ?_) (fun c2 => absurd c2 hz.1)
        refine aw_iload_n dX6_isFraction_33 2 rfl ?_
        refine aw_bipush (v := 66) dX6_isFraction_34 (by decide) ?_
        refine aw_icmp_gtN e 66 64 dX6_isFraction_36 (by decide) rfl rfl (by omega) (by omega) (fun c3 => absurd c3 (by omega)) (fun c3 => ?_)
        refine aw_lload_n dX6_isFraction_39 3 rfl ?_
        refine aw_ldc2 dX6_isFraction_40 kc_X6_304 ?_
        refine aw_lrem dX6_isFraction_43 (by decide) ?_
        refine aw_lconst (v := 0) dX6_isFraction_44 (by decide) ?_
        refine aw_leq 64 dX6_isFraction_45 dX6_isFraction_46 (by decide) (fun c4 => ?_) (fun c4 => absurd (hz.2.1.mpr co) c4)
        refine aw_iconst (v := 0) dX6_isFraction_64 (by decide) ?_
        refine aw_zret dX6_isFraction_65 rfl rfl (Nat.zero_le _) (Nat.zero_le _) ?_
        exact ⟨rfl, rfl⟩
    · by_cases cn : n < 16777216
      · by_cases c5 : n.log2 + 1 + e ≤ 66
        · rw [show scB 6 n e = true from decide_eq_true ⟨by omega, c6, cn, Or.inr c5⟩]
          show AW _ 0 _ _ M 0 0 (dt (some (.int 1)) M)
          cases s with
          | false =>
            refine aw_iload_n dX6_isFraction_0 0 rfl ?_
            refine aw_bipush (v := 6) dX6_isFraction_1 (by decide) ?_
            refine aw_icmp_neN 6 6 12 dX6_isFraction_3 (by decide) rfl rfl (by omega) (by omega) (fun c1 => absurd rfl c1) (fun c1 => ?_)
            refine aw_ldc2 dX6_isFraction_6 kc_X6_300 ?_
            refine aw_goto 15 dX6_isFraction_9 (by decide) ?_
            refine aw_lstore [(4, .long 16777216), (0, .int (nI 6)), (1, .int (nI e)), (2, .long z)] dX6_isFraction_15 (Nat.le_of_ble_eq_true rfl) rfl ?_
            refine aw_lload_n dX6_isFraction_17 3 rfl ?_
            refine aw_lconst (v := 0) dX6_isFraction_18 (by decide) ?_
            refine aw_lne 33 dX6_isFraction_19 dX6_isFraction_20 (by decide) (fun c2 => ?_) (fun c2 => absurd c2 hz.1)
            refine aw_iload_n dX6_isFraction_33 2 rfl ?_
            refine aw_bipush (v := 66) dX6_isFraction_34 (by decide) ?_
            refine aw_icmp_gtN e 66 64 dX6_isFraction_36 (by decide) rfl rfl (by omega) (by omega) (fun c3 => absurd c3 (by omega)) (fun c3 => ?_)
            refine aw_lload_n dX6_isFraction_39 3 rfl ?_
            refine aw_ldc2 dX6_isFraction_40 kc_X6_304 ?_
            refine aw_lrem dX6_isFraction_43 (by decide) ?_
            refine aw_lconst (v := 0) dX6_isFraction_44 (by decide) ?_
            refine aw_leq 64 dX6_isFraction_45 dX6_isFraction_46 (by decide) (fun c4 => absurd (hz.2.1.mp c4) co) (fun c4 => ?_)
            refine aw_lload_n dX6_isFraction_49 3 rfl ?_
            refine aw_lload dX6_isFraction_50 0 rfl ?_
            refine aw_lge 64 dX6_isFraction_52 dX6_isFraction_53 (by decide) (fun c5 => absurd ((hz.2.2.1 16777216 (by decide)).mp c5) (fun z => (by have := z.2; omega))) (fun c5 => ?_)
            refine aw_lload_n dX6_isFraction_56 3 rfl ?_
            refine aw_lload dX6_isFraction_57 0 rfl ?_
            refine aw_lneg dX6_isFraction_59 ?_
            refine aw_lgt 66 dX6_isFraction_60 dX6_isFraction_61 (by decide) (fun c6 => ?_) (fun c6 => absurd ((hz.2.2.2.1 16777216 (by decide) (by decide)).mpr (Or.inl rfl)) c6)
            refine aw_lload_n dX6_isFraction_66 3 rfl ?_
            refine aw_lconst (v := 0) dX6_isFraction_67 (by decide) ?_
            refine aw_lge 77 dX6_isFraction_68 dX6_isFraction_69 (by decide) (fun c7 => ?_) (fun c7 => absurd (hz.2.2.2.2.1.mpr rfl) c7)
            refine aw_lload_n dX6_isFraction_77 3 rfl ?_
            refine aw_toplE (hz.2.2.2.2.2.2 rfl) ?_
            refine aw_lstore [(6, .long (lN n)), (4, .long 16777216), (0, .int (nI 6)), (1, .int (nI e)), (2, .long z)] dX6_isFraction_78 (Nat.le_of_ble_eq_true rfl) rfl ?_
            refine aw_iconst (v := 0) dX6_isFraction_80 (by decide) ?_
            refine aw_istore [(8, .int 0), (6, .long (lN n)), (4, .long 16777216), (0, .int (nI 6)), (1, .int (nI e)), (2, .long z)] dX6_isFraction_81 (Nat.le_of_ble_eq_true rfl) rfl ?_
            refine lp_if 63 n 0 hn (by decide) ?_
            refine aw_iload dX6_isFraction_104 0 rfl ?_
            refine aw_iload_n dX6_isFraction_106 4 rfl ?_
            refine aw_iaddN (0 + bl n) e dX6_isFraction_107 rfl rfl ?_
            refine aw_bipush (v := 66) dX6_isFraction_108 (by decide) ?_
            refine aw_icmp_leN ((0 + bl n) + e) 66 119 dX6_isFraction_110 (by decide) rfl rfl (by omega) (by omega) (fun c1 => ?_) (fun c1 => absurd (by omega) c1)
            refine aw_iconst (v := 1) dX6_isFraction_119 (by decide) ?_
            refine aw_goto 124 dX6_isFraction_120 (by decide) ?_
            refine aw_zret dX6_isFraction_124 rfl rfl (Nat.zero_le _) (Nat.zero_le _) ?_
            exact ⟨rfl, rfl⟩
          | true =>
            refine aw_iload_n dX6_isFraction_0 0 rfl ?_
            refine aw_bipush (v := 6) dX6_isFraction_1 (by decide) ?_
            refine aw_icmp_neN 6 6 12 dX6_isFraction_3 (by decide) rfl rfl (by omega) (by omega) (fun c1 => absurd rfl c1) (fun c1 => ?_)
            refine aw_ldc2 dX6_isFraction_6 kc_X6_300 ?_
            refine aw_goto 15 dX6_isFraction_9 (by decide) ?_
            refine aw_lstore [(4, .long 16777216), (0, .int (nI 6)), (1, .int (nI e)), (2, .long z)] dX6_isFraction_15 (Nat.le_of_ble_eq_true rfl) rfl ?_
            refine aw_lload_n dX6_isFraction_17 3 rfl ?_
            refine aw_lconst (v := 0) dX6_isFraction_18 (by decide) ?_
            refine aw_lne 33 dX6_isFraction_19 dX6_isFraction_20 (by decide) (fun c2 => ?_) (fun c2 => absurd c2 hz.1)
            refine aw_iload_n dX6_isFraction_33 2 rfl ?_
            refine aw_bipush (v := 66) dX6_isFraction_34 (by decide) ?_
            refine aw_icmp_gtN e 66 64 dX6_isFraction_36 (by decide) rfl rfl (by omega) (by omega) (fun c3 => absurd c3 (by omega)) (fun c3 => ?_)
            refine aw_lload_n dX6_isFraction_39 3 rfl ?_
            refine aw_ldc2 dX6_isFraction_40 kc_X6_304 ?_
            refine aw_lrem dX6_isFraction_43 (by decide) ?_
            refine aw_lconst (v := 0) dX6_isFraction_44 (by decide) ?_
            refine aw_leq 64 dX6_isFraction_45 dX6_isFraction_46 (by decide) (fun c4 => absurd (hz.2.1.mp c4) co) (fun c4 => ?_)
            refine aw_lload_n dX6_isFraction_49 3 rfl ?_
            refine aw_lload dX6_isFraction_50 0 rfl ?_
            refine aw_lge 64 dX6_isFraction_52 dX6_isFraction_53 (by decide) (fun c5 => absurd ((hz.2.2.1 16777216 (by decide)).mp c5) (fun z => (by cases z.1))) (fun c5 => ?_)
            refine aw_lload_n dX6_isFraction_56 3 rfl ?_
            refine aw_lload dX6_isFraction_57 0 rfl ?_
            refine aw_lneg dX6_isFraction_59 ?_
            refine aw_lgt 66 dX6_isFraction_60 dX6_isFraction_61 (by decide) (fun c6 => ?_) (fun c6 => absurd ((hz.2.2.2.1 16777216 (by decide) (by decide)).mpr (Or.inr cn)) c6)
            refine aw_lload_n dX6_isFraction_66 3 rfl ?_
            refine aw_lconst (v := 0) dX6_isFraction_67 (by decide) ?_
            refine aw_lge 77 dX6_isFraction_68 dX6_isFraction_69 (by decide) (fun c7 => absurd (hz.2.2.2.2.1.mp c7) (by decide)) (fun c7 => ?_)
            refine aw_lload_n dX6_isFraction_72 3 rfl ?_
            refine aw_lneg dX6_isFraction_73 ?_
            refine aw_goto 78 dX6_isFraction_74 (by decide) ?_
            refine aw_toplE (hz.2.2.2.2.2.1 rfl) ?_
            refine aw_lstore [(6, .long (lN n)), (4, .long 16777216), (0, .int (nI 6)), (1, .int (nI e)), (2, .long z)] dX6_isFraction_78 (Nat.le_of_ble_eq_true rfl) rfl ?_
            refine aw_iconst (v := 0) dX6_isFraction_80 (by decide) ?_
            refine aw_istore [(8, .int 0), (6, .long (lN n)), (4, .long 16777216), (0, .int (nI 6)), (1, .int (nI e)), (2, .long z)] dX6_isFraction_81 (Nat.le_of_ble_eq_true rfl) rfl ?_
            refine lp_if 63 n 0 hn (by decide) ?_
            refine aw_iload dX6_isFraction_104 0 rfl ?_
            refine aw_iload_n dX6_isFraction_106 4 rfl ?_
            refine aw_iaddN (0 + bl n) e dX6_isFraction_107 rfl rfl ?_
            refine aw_bipush (v := 66) dX6_isFraction_108 (by decide) ?_
            refine aw_icmp_leN ((0 + bl n) + e) 66 119 dX6_isFraction_110 (by decide) rfl rfl (by omega) (by omega) (fun c1 => ?_) (fun c1 => absurd (by omega) c1)
            refine aw_iconst (v := 1) dX6_isFraction_119 (by decide) ?_
            refine aw_goto 124 dX6_isFraction_120 (by decide) ?_
            refine aw_zret dX6_isFraction_124 rfl rfl (Nat.zero_le _) (Nat.zero_le _) ?_
            exact ⟨rfl, rfl⟩
        · by_cases c1 : n = 1
          · have hl0 := hl1 c1
            rw [show scB 6 n e = true from decide_eq_true ⟨by omega, c6, cn, Or.inl c1⟩]
            show AW _ 0 _ _ M 0 0 (dt (some (.int 1)) M)
            cases s with
            | false =>
              refine aw_iload_n dX6_isFraction_0 0 rfl ?_
              refine aw_bipush (v := 6) dX6_isFraction_1 (by decide) ?_
              refine aw_icmp_neN 6 6 12 dX6_isFraction_3 (by decide) rfl rfl (by omega) (by omega) (fun c1 => absurd rfl c1) (fun c1 => ?_)
              refine aw_ldc2 dX6_isFraction_6 kc_X6_300 ?_
              refine aw_goto 15 dX6_isFraction_9 (by decide) ?_
              refine aw_lstore [(4, .long 16777216), (0, .int (nI 6)), (1, .int (nI e)), (2, .long z)] dX6_isFraction_15 (Nat.le_of_ble_eq_true rfl) rfl ?_
              refine aw_lload_n dX6_isFraction_17 3 rfl ?_
              refine aw_lconst (v := 0) dX6_isFraction_18 (by decide) ?_
              refine aw_lne 33 dX6_isFraction_19 dX6_isFraction_20 (by decide) (fun c2 => ?_) (fun c2 => absurd c2 hz.1)
              refine aw_iload_n dX6_isFraction_33 2 rfl ?_
              refine aw_bipush (v := 66) dX6_isFraction_34 (by decide) ?_
              refine aw_icmp_gtN e 66 64 dX6_isFraction_36 (by decide) rfl rfl (by omega) (by omega) (fun c3 => absurd c3 (by omega)) (fun c3 => ?_)
              refine aw_lload_n dX6_isFraction_39 3 rfl ?_
              refine aw_ldc2 dX6_isFraction_40 kc_X6_304 ?_
              refine aw_lrem dX6_isFraction_43 (by decide) ?_
              refine aw_lconst (v := 0) dX6_isFraction_44 (by decide) ?_
              refine aw_leq 64 dX6_isFraction_45 dX6_isFraction_46 (by decide) (fun c4 => absurd (hz.2.1.mp c4) co) (fun c4 => ?_)
              refine aw_lload_n dX6_isFraction_49 3 rfl ?_
              refine aw_lload dX6_isFraction_50 0 rfl ?_
              refine aw_lge 64 dX6_isFraction_52 dX6_isFraction_53 (by decide) (fun c5 => absurd ((hz.2.2.1 16777216 (by decide)).mp c5) (fun z => (by have := z.2; omega))) (fun c5 => ?_)
              refine aw_lload_n dX6_isFraction_56 3 rfl ?_
              refine aw_lload dX6_isFraction_57 0 rfl ?_
              refine aw_lneg dX6_isFraction_59 ?_
              refine aw_lgt 66 dX6_isFraction_60 dX6_isFraction_61 (by decide) (fun c6 => ?_) (fun c6 => absurd ((hz.2.2.2.1 16777216 (by decide) (by decide)).mpr (Or.inl rfl)) c6)
              refine aw_lload_n dX6_isFraction_66 3 rfl ?_
              refine aw_lconst (v := 0) dX6_isFraction_67 (by decide) ?_
              refine aw_lge 77 dX6_isFraction_68 dX6_isFraction_69 (by decide) (fun c7 => ?_) (fun c7 => absurd (hz.2.2.2.2.1.mpr rfl) c7)
              refine aw_lload_n dX6_isFraction_77 3 rfl ?_
              refine aw_toplE (hz.2.2.2.2.2.2 rfl) ?_
              refine aw_lstore [(6, .long (lN n)), (4, .long 16777216), (0, .int (nI 6)), (1, .int (nI e)), (2, .long z)] dX6_isFraction_78 (Nat.le_of_ble_eq_true rfl) rfl ?_
              refine aw_iconst (v := 0) dX6_isFraction_80 (by decide) ?_
              refine aw_istore [(8, .int 0), (6, .long (lN n)), (4, .long 16777216), (0, .int (nI 6)), (1, .int (nI e)), (2, .long z)] dX6_isFraction_81 (Nat.le_of_ble_eq_true rfl) rfl ?_
              refine lp_if 63 n 0 hn (by decide) ?_
              refine aw_iload dX6_isFraction_104 0 rfl ?_
              refine aw_iload_n dX6_isFraction_106 4 rfl ?_
              refine aw_iaddN (0 + bl n) e dX6_isFraction_107 rfl rfl ?_
              refine aw_bipush (v := 66) dX6_isFraction_108 (by decide) ?_
              refine aw_icmp_leN ((0 + bl n) + e) 66 119 dX6_isFraction_110 (by decide) rfl rfl (by omega) (by omega) (fun c1 => absurd c1 (by omega)) (fun c1 => ?_)
              refine aw_iload dX6_isFraction_113 0 rfl ?_
              refine aw_iconst (v := 1) dX6_isFraction_115 (by decide) ?_
              refine aw_icmp_neN (0 + bl n) 1 123 dX6_isFraction_116 (by decide) rfl rfl (by omega) (by omega) (fun c2 => absurd (by omega) c2) (fun c2 => ?_)
              refine aw_iconst (v := 1) dX6_isFraction_119 (by decide) ?_
              refine aw_goto 124 dX6_isFraction_120 (by decide) ?_
              refine aw_zret dX6_isFraction_124 rfl rfl (Nat.zero_le _) (Nat.zero_le _) ?_
              exact ⟨rfl, rfl⟩
            | true =>
              refine aw_iload_n dX6_isFraction_0 0 rfl ?_
              refine aw_bipush (v := 6) dX6_isFraction_1 (by decide) ?_
              refine aw_icmp_neN 6 6 12 dX6_isFraction_3 (by decide) rfl rfl (by omega) (by omega) (fun c1 => absurd rfl c1) (fun c1 => ?_)
              refine aw_ldc2 dX6_isFraction_6 kc_X6_300 ?_
              refine aw_goto 15 dX6_isFraction_9 (by decide) ?_
              refine aw_lstore [(4, .long 16777216), (0, .int (nI 6)), (1, .int (nI e)), (2, .long z)] dX6_isFraction_15 (Nat.le_of_ble_eq_true rfl) rfl ?_
              refine aw_lload_n dX6_isFraction_17 3 rfl ?_
              refine aw_lconst (v := 0) dX6_isFraction_18 (by decide) ?_
              refine aw_lne 33 dX6_isFraction_19 dX6_isFraction_20 (by decide) (fun c2 => ?_) (fun c2 => absurd c2 hz.1)
              refine aw_iload_n dX6_isFraction_33 2 rfl ?_
              refine aw_bipush (v := 66) dX6_isFraction_34 (by decide) ?_
              refine aw_icmp_gtN e 66 64 dX6_isFraction_36 (by decide) rfl rfl (by omega) (by omega) (fun c3 => absurd c3 (by omega)) (fun c3 => ?_)
              refine aw_lload_n dX6_isFraction_39 3 rfl ?_
              refine aw_ldc2 dX6_isFraction_40 kc_X6_304 ?_
              refine aw_lrem dX6_isFraction_43 (by decide) ?_
              refine aw_lconst (v := 0) dX6_isFraction_44 (by decide) ?_
              refine aw_leq 64 dX6_isFraction_45 dX6_isFraction_46 (by decide) (fun c4 => absurd (hz.2.1.mp c4) co) (fun c4 => ?_)
              refine aw_lload_n dX6_isFraction_49 3 rfl ?_
              refine aw_lload dX6_isFraction_50 0 rfl ?_
              refine aw_lge 64 dX6_isFraction_52 dX6_isFraction_53 (by decide) (fun c5 => absurd ((hz.2.2.1 16777216 (by decide)).mp c5) (fun z => (by cases z.1))) (fun c5 => ?_)
              refine aw_lload_n dX6_isFraction_56 3 rfl ?_
              refine aw_lload dX6_isFraction_57 0 rfl ?_
              refine aw_lneg dX6_isFraction_59 ?_
              refine aw_lgt 66 dX6_isFraction_60 dX6_isFraction_61 (by decide) (fun c6 => ?_) (fun c6 => absurd ((hz.2.2.2.1 16777216 (by decide) (by decide)).mpr (Or.inr cn)) c6)
              refine aw_lload_n dX6_isFraction_66 3 rfl ?_
              refine aw_lconst (v := 0) dX6_isFraction_67 (by decide) ?_
              refine aw_lge 77 dX6_isFraction_68 dX6_isFraction_69 (by decide) (fun c7 => absurd (hz.2.2.2.2.1.mp c7) (by decide)) (fun c7 => ?_)
              refine aw_lload_n dX6_isFraction_72 3 rfl ?_
              refine aw_lneg dX6_isFraction_73 ?_
              refine aw_goto 78 dX6_isFraction_74 (by decide) ?_
              refine aw_toplE (hz.2.2.2.2.2.1 rfl) ?_
              refine aw_lstore [(6, .long (lN n)), (4, .long 16777216), (0, .int (nI 6)), (1, .int (nI e)), (2, .long z)] dX6_isFraction_78 (Nat.le_of_ble_eq_true rfl) rfl ?_
              refine aw_iconst (v := 0) dX6_isFraction_80 (by decide) ?_
              refine aw_istore [(8, .int 0), (6, .long (lN n)), (4, .long 16777216), (0, .int (nI 6)), (1, .int (nI e)), (2, .long z)] dX6_isFraction_81 (Nat.le_of_ble_eq_true rfl) rfl ?_
              refine lp_if 63 n 0 hn (by decide) ?_
              refine aw_iload dX6_isFraction_104 0 rfl ?_
              refine aw_iload_n dX6_isFraction_106 4 rfl ?_
              refine aw_iaddN (0 + bl n) e dX6_isFraction_107 rfl rfl ?_
              refine aw_bipush (v := 66) dX6_isFraction_108 (by decide) ?_
              refine aw_icmp_leN ((0 + bl n) + e) 66 119 dX6_isFraction_110 (by decide) rfl rfl (by omega) (by omega) (fun c1 => absurd c1 (by omega)) (fun c1 => ?_)
              refine aw_iload dX6_isFraction_113 0 rfl ?_
              refine aw_iconst (v := 1) dX6_isFraction_115 (by decide) ?_
              refine aw_icmp_neN (0 + bl n) 1 123 dX6_isFraction_116 (by decide) rfl rfl (by omega) (by omega) (fun c2 => absurd (by omega) c2) (fun c2 => ?_)
              refine aw_iconst (v := 1) dX6_isFraction_119 (by decide) ?_
              refine aw_goto 124 dX6_isFraction_120 (by decide) ?_
              refine aw_zret dX6_isFraction_124 rfl rfl (Nat.zero_le _) (Nat.zero_le _) ?_
              exact ⟨rfl, rfl⟩
          · have hl0 : ¬ n.log2 = 0 := fun q => c1 (h1l q)
            rw [show scB 6 n e = false from decide_eq_false (fun z => by rcases z.2.2.2 with z | z; exact c1 z; omega)]
            show AW _ 0 _ _ M 0 0 (dt (some (.int 0)) M)
            cases s with
            | false =>
              refine aw_iload_n dX6_isFraction_0 0 rfl ?_
              refine aw_bipush (v := 6) dX6_isFraction_1 (by decide) ?_
              refine aw_icmp_neN 6 6 12 dX6_isFraction_3 (by decide) rfl rfl (by omega) (by omega) (fun c1 => absurd rfl c1) (fun c1 => ?_)
              refine aw_ldc2 dX6_isFraction_6 kc_X6_300 ?_
              refine aw_goto 15 dX6_isFraction_9 (by decide) ?_
              refine aw_lstore [(4, .long 16777216), (0, .int (nI 6)), (1, .int (nI e)), (2, .long z)] dX6_isFraction_15 (Nat.le_of_ble_eq_true rfl) rfl ?_
              refine aw_lload_n dX6_isFraction_17 3 rfl ?_
              refine aw_lconst (v := 0) dX6_isFraction_18 (by decide) ?_
              refine aw_lne 33 dX6_isFraction_19 dX6_isFraction_20 (by decide) (fun c2 => ?_) (fun c2 => absurd c2 hz.1)
              refine aw_iload_n dX6_isFraction_33 2 rfl ?_
              refine aw_bipush (v := 66) dX6_isFraction_34 (by decide) ?_
              refine aw_icmp_gtN e 66 64 dX6_isFraction_36 (by decide) rfl rfl (by omega) (by omega) (fun c3 => absurd c3 (by omega)) (fun c3 => ?_)
              refine aw_lload_n dX6_isFraction_39 3 rfl ?_
              refine aw_ldc2 dX6_isFraction_40 kc_X6_304 ?_
              refine aw_lrem dX6_isFraction_43 (by decide) ?_
              refine aw_lconst (v := 0) dX6_isFraction_44 (by decide) ?_
              refine aw_leq 64 dX6_isFraction_45 dX6_isFraction_46 (by decide) (fun c4 => absurd (hz.2.1.mp c4) co) (fun c4 => ?_)
              refine aw_lload_n dX6_isFraction_49 3 rfl ?_
              refine aw_lload dX6_isFraction_50 0 rfl ?_
              refine aw_lge 64 dX6_isFraction_52 dX6_isFraction_53 (by decide) (fun c5 => absurd ((hz.2.2.1 16777216 (by decide)).mp c5) (fun z => (by have := z.2; omega))) (fun c5 => ?_)
              refine aw_lload_n dX6_isFraction_56 3 rfl ?_
              refine aw_lload dX6_isFraction_57 0 rfl ?_
              refine aw_lneg dX6_isFraction_59 ?_
              refine aw_lgt 66 dX6_isFraction_60 dX6_isFraction_61 (by decide) (fun c6 => ?_) (fun c6 => absurd ((hz.2.2.2.1 16777216 (by decide) (by decide)).mpr (Or.inl rfl)) c6)
              refine aw_lload_n dX6_isFraction_66 3 rfl ?_
              refine aw_lconst (v := 0) dX6_isFraction_67 (by decide) ?_
              refine aw_lge 77 dX6_isFraction_68 dX6_isFraction_69 (by decide) (fun c7 => ?_) (fun c7 => absurd (hz.2.2.2.2.1.mpr rfl) c7)
              refine aw_lload_n dX6_isFraction_77 3 rfl ?_
              refine aw_toplE (hz.2.2.2.2.2.2 rfl) ?_
              refine aw_lstore [(6, .long (lN n)), (4, .long 16777216), (0, .int (nI 6)), (1, .int (nI e)), (2, .long z)] dX6_isFraction_78 (Nat.le_of_ble_eq_true rfl) rfl ?_
              refine aw_iconst (v := 0) dX6_isFraction_80 (by decide) ?_
              refine aw_istore [(8, .int 0), (6, .long (lN n)), (4, .long 16777216), (0, .int (nI 6)), (1, .int (nI e)), (2, .long z)] dX6_isFraction_81 (Nat.le_of_ble_eq_true rfl) rfl ?_
              refine lp_if 63 n 0 hn (by decide) ?_
              refine aw_iload dX6_isFraction_104 0 rfl ?_
              refine aw_iload_n dX6_isFraction_106 4 rfl ?_
              refine aw_iaddN (0 + bl n) e dX6_isFraction_107 rfl rfl ?_
              refine aw_bipush (v := 66) dX6_isFraction_108 (by decide) ?_
              refine aw_icmp_leN ((0 + bl n) + e) 66 119 dX6_isFraction_110 (by decide) rfl rfl (by omega) (by omega) (fun c1 => absurd c1 (by omega)) (fun c1 => ?_)
              refine aw_iload dX6_isFraction_113 0 rfl ?_
              refine aw_iconst (v := 1) dX6_isFraction_115 (by decide) ?_
              refine aw_icmp_neN (0 + bl n) 1 123 dX6_isFraction_116 (by decide) rfl rfl (by omega) (by omega) (fun c2 => ?_) (fun c2 => absurd c2 (by omega))
              refine aw_iconst (v := 0) dX6_isFraction_123 (by decide) ?_
              refine aw_zret dX6_isFraction_124 rfl rfl (Nat.zero_le _) (Nat.zero_le _) ?_
              exact ⟨rfl, rfl⟩
            | true =>
              refine aw_iload_n dX6_isFraction_0 0 rfl ?_
              refine aw_bipush (v := 6) dX6_isFraction_1 (by decide) ?_
              refine aw_icmp_neN 6 6 12 dX6_isFraction_3 (by decide) rfl rfl (by omega) (by omega) (fun c1 => absurd rfl c1) (fun c1 => ?_)
              refine aw_ldc2 dX6_isFraction_6 kc_X6_300 ?_
              refine aw_goto 15 dX6_isFraction_9 (by decide) ?_
              refine aw_lstore [(4, .long 16777216), (0, .int (nI 6)), (1, .int (nI e)), (2, .long z)] dX6_isFraction_15 (Nat.le_of_ble_eq_true rfl) rfl ?_
              refine aw_lload_n dX6_isFraction_17 3 rfl ?_
              refine aw_lconst (v := 0) dX6_isFraction_18 (by decide) ?_
              refine aw_lne 33 dX6_isFraction_19 dX6_isFraction_20 (by decide) (fun c2 => ?_) (fun c2 => absurd c2 hz.1)
              refine aw_iload_n dX6_isFraction_33 2 rfl ?_
              refine aw_bipush (v := 66) dX6_isFraction_34 (by decide) ?_
              refine aw_icmp_gtN e 66 64 dX6_isFraction_36 (by decide) rfl rfl (by omega) (by omega) (fun c3 => absurd c3 (by omega)) (fun c3 => ?_)
              refine aw_lload_n dX6_isFraction_39 3 rfl ?_
              refine aw_ldc2 dX6_isFraction_40 kc_X6_304 ?_
              refine aw_lrem dX6_isFraction_43 (by decide) ?_
              refine aw_lconst (v := 0) dX6_isFraction_44 (by decide) ?_
              refine aw_leq 64 dX6_isFraction_45 dX6_isFraction_46 (by decide) (fun c4 => absurd (hz.2.1.mp c4) co) (fun c4 => ?_)
              refine aw_lload_n dX6_isFraction_49 3 rfl ?_
              refine aw_lload dX6_isFraction_50 0 rfl ?_
              refine aw_lge 64 dX6_isFraction_52 dX6_isFraction_53 (by decide) (fun c5 => absurd ((hz.2.2.1 16777216 (by decide)).mp c5) (fun z => (by cases z.1))) (fun c5 => ?_)
              refine aw_lload_n dX6_isFraction_56 3 rfl ?_
              refine aw_lload dX6_isFraction_57 0 rfl ?_
              refine aw_lneg dX6_isFraction_59 ?_
              refine aw_lgt 66 dX6_isFraction_60 dX6_isFraction_61 (by decide) (fun c6 => ?_) (fun c6 => absurd ((hz.2.2.2.1 16777216 (by decide) (by decide)).mpr (Or.inr cn)) c6)
              refine aw_lload_n dX6_isFraction_66 3 rfl ?_
              refine aw_lconst (v := 0) dX6_isFraction_67 (by decide) ?_
              refine aw_lge 77 dX6_isFraction_68 dX6_isFraction_69 (by decide) (fun c7 => absurd (hz.2.2.2.2.1.mp c7) (by decide)) (fun c7 => ?_)
              refine aw_lload_n dX6_isFraction_72 3 rfl ?_
              refine aw_lneg dX6_isFraction_73 ?_
              refine aw_goto 78 dX6_isFraction_74 (by decide) ?_
              refine aw_toplE (hz.2.2.2.2.2.1 rfl) ?_
              refine aw_lstore [(6, .long (lN n)), (4, .long 16777216), (0, .int (nI 6)), (1, .int (nI e)), (2, .long z)] dX6_isFraction_78 (Nat.le_of_ble_eq_true rfl) rfl ?_
              refine aw_iconst (v := 0) dX6_isFraction_80 (by decide) ?_
              refine aw_istore [(8, .int 0), (6, .long (lN n)), (4, .long 16777216), (0, .int (nI 6)), (1, .int (nI e)), (2, .long z)] dX6_isFraction_81 (Nat.le_of_ble_eq_true rfl) rfl ?_
              refine lp_if 63 n 0 hn (by decide) ?_
              refine aw_iload dX6_isFraction_104 0 rfl ?_
              refine aw_iload_n dX6_isFraction_106 4 rfl ?_
              refine aw_iaddN (0 + bl n) e dX6_isFraction_107 rfl rfl ?_
              refine aw_bipush (v := 66) dX6_isFraction_108 (by decide) ?_
              refine aw_icmp_leN ((0 + bl n) + e) 66 119 dX6_isFraction_110 (by decide) rfl rfl (by omega) (by omega) (fun c1 => absurd c1 (by omega)) (fun c1 => ?_)
              refine aw_iload dX6_isFraction_113 0 rfl ?_
              refine aw_iconst (v := 1) dX6_isFraction_115 (by decide) ?_
              refine aw_icmp_neN (0 + bl n) 1 123 dX6_isFraction_116 (by decide) rfl rfl (by omega) (by omega) (fun c2 => ?_) (fun c2 => absurd c2 (by omega))
              refine aw_iconst (v := 0) dX6_isFraction_123 (by decide) ?_
              refine aw_zret dX6_isFraction_124 rfl rfl (Nat.zero_le _) (Nat.zero_le _) ?_
              exact ⟨rfl, rfl⟩
      · rw [show scB 6 n e = false from decide_eq_false (fun z => cn z.2.2.1)]
        show AW _ 0 _ _ M 0 0 (dt (some (.int 0)) M)
        cases s with
        | false =>
          refine aw_iload_n dX6_isFraction_0 0 rfl ?_
          refine aw_bipush (v := 6) dX6_isFraction_1 (by decide) ?_
          refine aw_icmp_neN 6 6 12 dX6_isFraction_3 (by decide) rfl rfl (by omega) (by omega) (fun c1 => absurd rfl c1) (fun c1 => ?_)
          refine aw_ldc2 dX6_isFraction_6 kc_X6_300 ?_
          refine aw_goto 15 dX6_isFraction_9 (by decide) ?_
          refine aw_lstore [(4, .long 16777216), (0, .int (nI 6)), (1, .int (nI e)), (2, .long z)] dX6_isFraction_15 (Nat.le_of_ble_eq_true rfl) rfl ?_
          refine aw_lload_n dX6_isFraction_17 3 rfl ?_
          refine aw_lconst (v := 0) dX6_isFraction_18 (by decide) ?_
          refine aw_lne 33 dX6_isFraction_19 dX6_isFraction_20 (by decide) (fun c2 => ?_) (fun c2 => absurd c2 hz.1)
          refine aw_iload_n dX6_isFraction_33 2 rfl ?_
          refine aw_bipush (v := 66) dX6_isFraction_34 (by decide) ?_
          refine aw_icmp_gtN e 66 64 dX6_isFraction_36 (by decide) rfl rfl (by omega) (by omega) (fun c3 => absurd c3 (by omega)) (fun c3 => ?_)
          refine aw_lload_n dX6_isFraction_39 3 rfl ?_
          refine aw_ldc2 dX6_isFraction_40 kc_X6_304 ?_
          refine aw_lrem dX6_isFraction_43 (by decide) ?_
          refine aw_lconst (v := 0) dX6_isFraction_44 (by decide) ?_
          refine aw_leq 64 dX6_isFraction_45 dX6_isFraction_46 (by decide) (fun c4 => absurd (hz.2.1.mp c4) co) (fun c4 => ?_)
          refine aw_lload_n dX6_isFraction_49 3 rfl ?_
          refine aw_lload dX6_isFraction_50 0 rfl ?_
          refine aw_lge 64 dX6_isFraction_52 dX6_isFraction_53 (by decide) (fun c5 => ?_) (fun c5 => absurd ((hz.2.2.1 16777216 (by decide)).mpr ⟨rfl, by omega⟩) c5)
          refine aw_iconst (v := 0) dX6_isFraction_64 (by decide) ?_
          refine aw_zret dX6_isFraction_65 rfl rfl (Nat.zero_le _) (Nat.zero_le _) ?_
          exact ⟨rfl, rfl⟩
        | true =>
          refine aw_iload_n dX6_isFraction_0 0 rfl ?_
          refine aw_bipush (v := 6) dX6_isFraction_1 (by decide) ?_
          refine aw_icmp_neN 6 6 12 dX6_isFraction_3 (by decide) rfl rfl (by omega) (by omega) (fun c1 => absurd rfl c1) (fun c1 => ?_)
          refine aw_ldc2 dX6_isFraction_6 kc_X6_300 ?_
          refine aw_goto 15 dX6_isFraction_9 (by decide) ?_
          refine aw_lstore [(4, .long 16777216), (0, .int (nI 6)), (1, .int (nI e)), (2, .long z)] dX6_isFraction_15 (Nat.le_of_ble_eq_true rfl) rfl ?_
          refine aw_lload_n dX6_isFraction_17 3 rfl ?_
          refine aw_lconst (v := 0) dX6_isFraction_18 (by decide) ?_
          refine aw_lne 33 dX6_isFraction_19 dX6_isFraction_20 (by decide) (fun c2 => ?_) (fun c2 => absurd c2 hz.1)
          refine aw_iload_n dX6_isFraction_33 2 rfl ?_
          refine aw_bipush (v := 66) dX6_isFraction_34 (by decide) ?_
          refine aw_icmp_gtN e 66 64 dX6_isFraction_36 (by decide) rfl rfl (by omega) (by omega) (fun c3 => absurd c3 (by omega)) (fun c3 => ?_)
          refine aw_lload_n dX6_isFraction_39 3 rfl ?_
          refine aw_ldc2 dX6_isFraction_40 kc_X6_304 ?_
          refine aw_lrem dX6_isFraction_43 (by decide) ?_
          refine aw_lconst (v := 0) dX6_isFraction_44 (by decide) ?_
          refine aw_leq 64 dX6_isFraction_45 dX6_isFraction_46 (by decide) (fun c4 => absurd (hz.2.1.mp c4) co) (fun c4 => ?_)
          refine aw_lload_n dX6_isFraction_49 3 rfl ?_
          refine aw_lload dX6_isFraction_50 0 rfl ?_
          refine aw_lge 64 dX6_isFraction_52 dX6_isFraction_53 (by decide) (fun c5 => absurd ((hz.2.2.1 16777216 (by decide)).mp c5) (fun z => (by cases z.1))) (fun c5 => ?_)
          refine aw_lload_n dX6_isFraction_56 3 rfl ?_
          refine aw_lload dX6_isFraction_57 0 rfl ?_
          refine aw_lneg dX6_isFraction_59 ?_
          refine aw_lgt 66 dX6_isFraction_60 dX6_isFraction_61 (by decide) (fun c6 => absurd ((hz.2.2.2.1 16777216 (by decide) (by decide)).mp c6) (fun z => by rcases z with z | z; cases z; omega)) (fun c6 => ?_)
          refine aw_iconst (v := 0) dX6_isFraction_64 (by decide) ?_
          refine aw_zret dX6_isFraction_65 rfl rfl (Nat.zero_le _) (Nat.zero_le _) ?_
          exact ⟨rfl, rfl⟩
  · rw [show scB 6 n e = false from decide_eq_false (fun z => c6 z.2.1)]
    show AW _ 0 _ _ M 0 0 (dt (some (.int 0)) M)
    refine aw_iload_n dX6_isFraction_0 0 rfl ?_
    refine aw_bipush (v := 6) dX6_isFraction_1 (by decide) ?_
    refine aw_icmp_neN 6 6 12 dX6_isFraction_3 (by decide) rfl rfl (by omega) (by omega) (fun c1 => absurd rfl c1) (fun c1 => ?_)
    refine aw_ldc2 dX6_isFraction_6 kc_X6_300 ?_
    refine aw_goto 15 dX6_isFraction_9 (by decide) ?_
    refine aw_lstore [(4, .long 16777216), (0, .int (nI 6)), (1, .int (nI e)), (2, .long z)] dX6_isFraction_15 (Nat.le_of_ble_eq_true rfl) rfl ?_
    refine aw_lload_n dX6_isFraction_17 3 rfl ?_
    refine aw_lconst (v := 0) dX6_isFraction_18 (by decide) ?_
    refine aw_lne 33 dX6_isFraction_19 dX6_isFraction_20 (by decide) (fun c2 => ?_) (fun c2 => absurd c2 hz.1)
    refine aw_iload_n dX6_isFraction_33 2 rfl ?_
    refine aw_bipush (v := 66) dX6_isFraction_34 (by decide) ?_
    refine aw_icmp_gtN e 66 64 dX6_isFraction_36 (by decide) rfl rfl (by omega) (by omega) (fun c3 => ?_) (fun c3 => absurd (by omega) c3)
    refine aw_iconst (v := 0) dX6_isFraction_64 (by decide) ?_
    refine aw_zret dX6_isFraction_65 rfl rfl (Nat.zero_le _) (Nat.zero_le _) ?_
    exact ⟨rfl, rfl⟩
theorem sp_if7 {d : Nat} {M : xM} {n e : Nat} {z : Int64} (s : Bool) (h0 : 0 < n) (hn : n < 2 ^ 63) (he : e < 256) (hz : zF s n z) : Sp (fX6_isFraction d) [.int (nI 7), .int (nI e), .long z] M (dt (some (.int (bz (scB 7 n e)))) M) := by
  refine Sp.of pn_X6 (Nat.le_of_ble_eq_true rfl) (fun h => Bool.noConfusion h) ?_
  have ebl : bl n = n.log2 + 1 := if_neg (by omega)
  have hl : n.log2 < 63 := (Nat.log2_lt (by omega)).mpr hn
  have h1l : n.log2 = 0 → n = 1 := fun q => by have := (Nat.log2_lt (n := n) (k := 1) (by omega)).mp (by omega); omega
  have hl1 : n = 1 → n.log2 = 0 := fun q => by rw [q]; decide
  by_cases c6 : e ≤ 66
  · by_cases co : n % 2 = 0
    · rw [show scB 7 n e = false from decide_eq_false (fun z => by have := z.1; omega)]
      show AW _ 0 _ _ M 0 0 (dt (some (.int 0)) M)
      cases s with
      | false =>
        refine aw_iload_n dX6_isFraction_0 0 rfl ?_
        refine aw_bipush (v := 6) dX6_isFraction_1 (by decide) ?_
        refine aw_icmp_neN 7 6 12 dX6_isFraction_3 (by decide) rfl rfl (by omega) (by omega) (fun c1 => ?_) (fun c1 => absurd c1 (by decide))
        refine aw_ldc2 dX6_isFraction_12 kc_X6_302 ?_
        refine aw_lstore [(4, .long 9007199254740992), (0, .int (nI 7)), (1, .int (nI e)), (2, .long z)] dX6_isFraction_15 (Nat.le_of_ble_eq_true rfl) rfl ?_
        refine aw_lload_n dX6_isFraction_17 3 rfl ?_
        refine aw_lconst (v := 0) dX6_isFraction_18 (by decide) ?_
        refine aw_lne 33 dX6_isFraction_19 dX6_isFraction_20 (by decide) (fun c2 => ?_) (fun c2 => absurd c2 hz.1)
        refine aw_iload_n dX6_isFraction_33 2 rfl ?_
        refine aw_bipush (v := 66) dX6_isFraction_34 (by decide) ?_
        refine aw_icmp_gtN e 66 64 dX6_isFraction_36 (by decide) rfl rfl (by omega) (by omega) (fun c3 => absurd c3 (by omega)) (fun c3 => ?_)
        refine aw_lload_n dX6_isFraction_39 3 rfl ?_
        refine aw_ldc2 dX6_isFraction_40 kc_X6_304 ?_
        refine aw_lrem dX6_isFraction_43 (by decide) ?_
        refine aw_lconst (v := 0) dX6_isFraction_44 (by decide) ?_
        refine aw_leq 64 dX6_isFraction_45 dX6_isFraction_46 (by decide) (fun c4 => ?_) (fun c4 => absurd (hz.2.1.mpr co) c4)
        refine aw_iconst (v := 0) dX6_isFraction_64 (by decide) ?_
        refine aw_zret dX6_isFraction_65 rfl rfl (Nat.zero_le _) (Nat.zero_le _) ?_
        exact ⟨rfl, rfl⟩
      | true =>
        refine aw_iload_n dX6_isFraction_0 0 rfl ?_
        refine aw_bipush (v := 6) dX6_isFraction_1 (by decide) ?_
        refine aw_icmp_neN 7 6 12 dX6_isFraction_3 (by decide) rfl rfl (by omega) (by omega) (fun c1 => ?_) (fun c1 => absurd c1 (by decide))
        refine aw_ldc2 dX6_isFraction_12 kc_X6_302 ?_
        refine aw_lstore [(4, .long 9007199254740992), (0, .int (nI 7)), (1, .int (nI e)), (2, .long z)] dX6_isFraction_15 (Nat.le_of_ble_eq_true rfl) rfl ?_
        refine aw_lload_n dX6_isFraction_17 3 rfl ?_
        refine aw_lconst (v := 0) dX6_isFraction_18 (by decide) ?_
        refine aw_lne 33 dX6_isFraction_19 dX6_isFraction_20 (by decide) (fun c2 => ?_) (fun c2 => absurd c2 hz.1)
        refine aw_iload_n dX6_isFraction_33 2 rfl ?_
        refine aw_bipush (v := 66) dX6_isFraction_34 (by decide) ?_
        refine aw_icmp_gtN e 66 64 dX6_isFraction_36 (by decide) rfl rfl (by omega) (by omega) (fun c3 => absurd c3 (by omega)) (fun c3 => ?_)
        refine aw_lload_n dX6_isFraction_39 3 rfl ?_
        refine aw_ldc2 dX6_isFraction_40 kc_X6_304 ?_
        refine aw_lrem dX6_isFraction_43 (by decide) ?_
        refine aw_lconst (v := 0) dX6_isFraction_44 (by decide) ?_
        refine aw_leq 64 dX6_isFraction_45 dX6_isFraction_46 (by decide) (fun c4 => ?_) (fun c4 => absurd (hz.2.1.mpr co) c4)
        refine aw_iconst (v := 0) dX6_isFraction_64 (by decide) ?_
        refine aw_zret dX6_isFraction_65 rfl rfl (Nat.zero_le _) (Nat.zero_le _) ?_
        exact ⟨rfl, rfl⟩
    · by_cases cn : n < 9007199254740992
      · by_cases c5 : n.log2 + 1 + e ≤ 66
        · rw [show scB 7 n e = true from decide_eq_true ⟨by omega, c6, cn, Or.inr c5⟩]
          show AW _ 0 _ _ M 0 0 (dt (some (.int 1)) M)
          cases s with
          | false =>
            refine aw_iload_n dX6_isFraction_0 0 rfl ?_
            refine aw_bipush (v := 6) dX6_isFraction_1 (by decide) ?_
            refine aw_icmp_neN 7 6 12 dX6_isFraction_3 (by decide) rfl rfl (by omega) (by omega) (fun c1 => ?_) (fun c1 => absurd c1 (by decide))
            refine aw_ldc2 dX6_isFraction_12 kc_X6_302 ?_
            refine aw_lstore [(4, .long 9007199254740992), (0, .int (nI 7)), (1, .int (nI e)), (2, .long z)] dX6_isFraction_15 (Nat.le_of_ble_eq_true rfl) rfl ?_
            refine aw_lload_n dX6_isFraction_17 3 rfl ?_
            refine aw_lconst (v := 0) dX6_isFraction_18 (by decide) ?_
            refine aw_lne 33 dX6_isFraction_19 dX6_isFraction_20 (by decide) (fun c2 => ?_) (fun c2 => absurd c2 hz.1)
            refine aw_iload_n dX6_isFraction_33 2 rfl ?_
            refine aw_bipush (v := 66) dX6_isFraction_34 (by decide) ?_
            refine aw_icmp_gtN e 66 64 dX6_isFraction_36 (by decide) rfl rfl (by omega) (by omega) (fun c3 => absurd c3 (by omega)) (fun c3 => ?_)
            refine aw_lload_n dX6_isFraction_39 3 rfl ?_
            refine aw_ldc2 dX6_isFraction_40 kc_X6_304 ?_
            refine aw_lrem dX6_isFraction_43 (by decide) ?_
            refine aw_lconst (v := 0) dX6_isFraction_44 (by decide) ?_
            refine aw_leq 64 dX6_isFraction_45 dX6_isFraction_46 (by decide) (fun c4 => absurd (hz.2.1.mp c4) co) (fun c4 => ?_)
            refine aw_lload_n dX6_isFraction_49 3 rfl ?_
            refine aw_lload dX6_isFraction_50 0 rfl ?_
            refine aw_lge 64 dX6_isFraction_52 dX6_isFraction_53 (by decide) (fun c5 => absurd ((hz.2.2.1 9007199254740992 (by decide)).mp c5) (fun z => (by have := z.2; omega))) (fun c5 => ?_)
            refine aw_lload_n dX6_isFraction_56 3 rfl ?_
            refine aw_lload dX6_isFraction_57 0 rfl ?_
            refine aw_lneg dX6_isFraction_59 ?_
            refine aw_lgt 66 dX6_isFraction_60 dX6_isFraction_61 (by decide) (fun c6 => ?_) (fun c6 => absurd ((hz.2.2.2.1 9007199254740992 (by decide) (by decide)).mpr (Or.inl rfl)) c6)
            refine aw_lload_n dX6_isFraction_66 3 rfl ?_
            refine aw_lconst (v := 0) dX6_isFraction_67 (by decide) ?_
            refine aw_lge 77 dX6_isFraction_68 dX6_isFraction_69 (by decide) (fun c7 => ?_) (fun c7 => absurd (hz.2.2.2.2.1.mpr rfl) c7)
            refine aw_lload_n dX6_isFraction_77 3 rfl ?_
            refine aw_toplE (hz.2.2.2.2.2.2 rfl) ?_
            refine aw_lstore [(6, .long (lN n)), (4, .long 9007199254740992), (0, .int (nI 7)), (1, .int (nI e)), (2, .long z)] dX6_isFraction_78 (Nat.le_of_ble_eq_true rfl) rfl ?_
            refine aw_iconst (v := 0) dX6_isFraction_80 (by decide) ?_
            refine aw_istore [(8, .int 0), (6, .long (lN n)), (4, .long 9007199254740992), (0, .int (nI 7)), (1, .int (nI e)), (2, .long z)] dX6_isFraction_81 (Nat.le_of_ble_eq_true rfl) rfl ?_
            refine lp_if 63 n 0 hn (by decide) ?_
            refine aw_iload dX6_isFraction_104 0 rfl ?_
            refine aw_iload_n dX6_isFraction_106 4 rfl ?_
            refine aw_iaddN (0 + bl n) e dX6_isFraction_107 rfl rfl ?_
            refine aw_bipush (v := 66) dX6_isFraction_108 (by decide) ?_
            refine aw_icmp_leN ((0 + bl n) + e) 66 119 dX6_isFraction_110 (by decide) rfl rfl (by omega) (by omega) (fun c1 => ?_) (fun c1 => absurd (by omega) c1)
            refine aw_iconst (v := 1) dX6_isFraction_119 (by decide) ?_
            refine aw_goto 124 dX6_isFraction_120 (by decide) ?_
            refine aw_zret dX6_isFraction_124 rfl rfl (Nat.zero_le _) (Nat.zero_le _) ?_
            exact ⟨rfl, rfl⟩
          | true =>
            refine aw_iload_n dX6_isFraction_0 0 rfl ?_
            refine aw_bipush (v := 6) dX6_isFraction_1 (by decide) ?_
            refine aw_icmp_neN 7 6 12 dX6_isFraction_3 (by decide) rfl rfl (by omega) (by omega) (fun c1 => ?_) (fun c1 => absurd c1 (by decide))
            refine aw_ldc2 dX6_isFraction_12 kc_X6_302 ?_
            refine aw_lstore [(4, .long 9007199254740992), (0, .int (nI 7)), (1, .int (nI e)), (2, .long z)] dX6_isFraction_15 (Nat.le_of_ble_eq_true rfl) rfl ?_
            refine aw_lload_n dX6_isFraction_17 3 rfl ?_
            refine aw_lconst (v := 0) dX6_isFraction_18 (by decide) ?_
            refine aw_lne 33 dX6_isFraction_19 dX6_isFraction_20 (by decide) (fun c2 => ?_) (fun c2 => absurd c2 hz.1)
            refine aw_iload_n dX6_isFraction_33 2 rfl ?_
            refine aw_bipush (v := 66) dX6_isFraction_34 (by decide) ?_
            refine aw_icmp_gtN e 66 64 dX6_isFraction_36 (by decide) rfl rfl (by omega) (by omega) (fun c3 => absurd c3 (by omega)) (fun c3 => ?_)
            refine aw_lload_n dX6_isFraction_39 3 rfl ?_
            refine aw_ldc2 dX6_isFraction_40 kc_X6_304 ?_
            refine aw_lrem dX6_isFraction_43 (by decide) ?_
            refine aw_lconst (v := 0) dX6_isFraction_44 (by decide) ?_
            refine aw_leq 64 dX6_isFraction_45 dX6_isFraction_46 (by decide) (fun c4 => absurd (hz.2.1.mp c4) co) (fun c4 => ?_)
            refine aw_lload_n dX6_isFraction_49 3 rfl ?_
            refine aw_lload dX6_isFraction_50 0 rfl ?_
            refine aw_lge 64 dX6_isFraction_52 dX6_isFraction_53 (by decide) (fun c5 => absurd ((hz.2.2.1 9007199254740992 (by decide)).mp c5) (fun z => (by cases z.1))) (fun c5 => ?_)
            refine aw_lload_n dX6_isFraction_56 3 rfl ?_
            refine aw_lload dX6_isFraction_57 0 rfl ?_
            refine aw_lneg dX6_isFraction_59 ?_
            refine aw_lgt 66 dX6_isFraction_60 dX6_isFraction_61 (by decide) (fun c6 => ?_) (fun c6 => absurd ((hz.2.2.2.1 9007199254740992 (by decide) (by decide)).mpr (Or.inr cn)) c6)
            refine aw_lload_n dX6_isFraction_66 3 rfl ?_
            refine aw_lconst (v := 0) dX6_isFraction_67 (by decide) ?_
            refine aw_lge 77 dX6_isFraction_68 dX6_isFraction_69 (by decide) (fun c7 => absurd (hz.2.2.2.2.1.mp c7) (by decide)) (fun c7 => ?_)
            refine aw_lload_n dX6_isFraction_72 3 rfl ?_
            refine aw_lneg dX6_isFraction_73 ?_
            refine aw_goto 78 dX6_isFraction_74 (by decide) ?_
            refine aw_toplE (hz.2.2.2.2.2.1 rfl) ?_
            refine aw_lstore [(6, .long (lN n)), (4, .long 9007199254740992), (0, .int (nI 7)), (1, .int (nI e)), (2, .long z)] dX6_isFraction_78 (Nat.le_of_ble_eq_true rfl) rfl ?_
            refine aw_iconst (v := 0) dX6_isFraction_80 (by decide) ?_
            refine aw_istore [(8, .int 0), (6, .long (lN n)), (4, .long 9007199254740992), (0, .int (nI 7)), (1, .int (nI e)), (2, .long z)] dX6_isFraction_81 (Nat.le_of_ble_eq_true rfl) rfl ?_
            refine lp_if 63 n 0 hn (by decide) ?_
            refine aw_iload dX6_isFraction_104 0 rfl ?_
            refine aw_iload_n dX6_isFraction_106 4 rfl ?_
            refine aw_iaddN (0 + bl n) e dX6_isFraction_107 rfl rfl ?_
            refine aw_bipush (v := 66) dX6_isFraction_108 (by decide) ?_
            refine aw_icmp_leN ((0 + bl n) + e) 66 119 dX6_isFraction_110 (by decide) rfl rfl (by omega) (by omega) (fun c1 => ?_) (fun c1 => absurd (by omega) c1)
            refine aw_iconst (v := 1) dX6_isFraction_119 (by decide) ?_
            refine aw_goto 124 dX6_isFraction_120 (by decide) ?_
            refine aw_zret dX6_isFraction_124 rfl rfl (Nat.zero_le _) (Nat.zero_le _) ?_
            exact ⟨rfl, rfl⟩
        · by_cases c1 : n = 1
          · have hl0 := hl1 c1
            rw [show scB 7 n e = true from decide_eq_true ⟨by omega, c6, cn, Or.inl c1⟩]
            show AW _ 0 _ _ M 0 0 (dt (some (.int 1)) M)
            cases s with
            | false =>
              refine aw_iload_n dX6_isFraction_0 0 rfl ?_
              refine aw_bipush (v := 6) dX6_isFraction_1 (by decide) ?_
              refine aw_icmp_neN 7 6 12 dX6_isFraction_3 (by decide) rfl rfl (by omega) (by omega) (fun c1 => ?_) (fun c1 => absurd c1 (by decide))
              refine aw_ldc2 dX6_isFraction_12 kc_X6_302 ?_
              refine aw_lstore [(4, .long 9007199254740992), (0, .int (nI 7)), (1, .int (nI e)), (2, .long z)] dX6_isFraction_15 (Nat.le_of_ble_eq_true rfl) rfl ?_
              refine aw_lload_n dX6_isFraction_17 3 rfl ?_
              refine aw_lconst (v := 0) dX6_isFraction_18 (by decide) ?_
              refine aw_lne 33 dX6_isFraction_19 dX6_isFraction_20 (by decide) (fun c2 => ?_) (fun c2 => absurd c2 hz.1)
              refine aw_iload_n dX6_isFraction_33 2 rfl ?_
              refine aw_bipush (v := 66) dX6_isFraction_34 (by decide) ?_
              refine aw_icmp_gtN e 66 64 dX6_isFraction_36 (by decide) rfl rfl (by omega) (by omega) (fun c3 => absurd c3 (by omega)) (fun c3 => ?_)
              refine aw_lload_n dX6_isFraction_39 3 rfl ?_
              refine aw_ldc2 dX6_isFraction_40 kc_X6_304 ?_
              refine aw_lrem dX6_isFraction_43 (by decide) ?_
              refine aw_lconst (v := 0) dX6_isFraction_44 (by decide) ?_
              refine aw_leq 64 dX6_isFraction_45 dX6_isFraction_46 (by decide) (fun c4 => absurd (hz.2.1.mp c4) co) (fun c4 => ?_)
              refine aw_lload_n dX6_isFraction_49 3 rfl ?_
              refine aw_lload dX6_isFraction_50 0 rfl ?_
              refine aw_lge 64 dX6_isFraction_52 dX6_isFraction_53 (by decide) (fun c5 => absurd ((hz.2.2.1 9007199254740992 (by decide)).mp c5) (fun z => (by have := z.2; omega))) (fun c5 => ?_)
              refine aw_lload_n dX6_isFraction_56 3 rfl ?_
              refine aw_lload dX6_isFraction_57 0 rfl ?_
              refine aw_lneg dX6_isFraction_59 ?_
              refine aw_lgt 66 dX6_isFraction_60 dX6_isFraction_61 (by decide) (fun c6 => ?_) (fun c6 => absurd ((hz.2.2.2.1 9007199254740992 (by decide) (by decide)).mpr (Or.inl rfl)) c6)
              refine aw_lload_n dX6_isFraction_66 3 rfl ?_
              refine aw_lconst (v := 0) dX6_isFraction_67 (by decide) ?_
              refine aw_lge 77 dX6_isFraction_68 dX6_isFraction_69 (by decide) (fun c7 => ?_) (fun c7 => absurd (hz.2.2.2.2.1.mpr rfl) c7)
              refine aw_lload_n dX6_isFraction_77 3 rfl ?_
              refine aw_toplE (hz.2.2.2.2.2.2 rfl) ?_
              refine aw_lstore [(6, .long (lN n)), (4, .long 9007199254740992), (0, .int (nI 7)), (1, .int (nI e)), (2, .long z)] dX6_isFraction_78 (Nat.le_of_ble_eq_true rfl) rfl ?_
              refine aw_iconst (v := 0) dX6_isFraction_80 (by decide) ?_
              refine aw_istore [(8, .int 0), (6, .long (lN n)), (4, .long 9007199254740992), (0, .int (nI 7)), (1, .int (nI e)), (2, .long z)] dX6_isFraction_81 (Nat.le_of_ble_eq_true rfl) rfl ?_
              refine lp_if 63 n 0 hn (by decide) ?_
              refine aw_iload dX6_isFraction_104 0 rfl ?_
              refine aw_iload_n dX6_isFraction_106 4 rfl ?_
              refine aw_iaddN (0 + bl n) e dX6_isFraction_107 rfl rfl ?_
              refine aw_bipush (v := 66) dX6_isFraction_108 (by decide) ?_
              refine aw_icmp_leN ((0 + bl n) + e) 66 119 dX6_isFraction_110 (by decide) rfl rfl (by omega) (by omega) (fun c1 => absurd c1 (by omega)) (fun c1 => ?_)
              refine aw_iload dX6_isFraction_113 0 rfl ?_
              refine aw_iconst (v := 1) dX6_isFraction_115 (by decide) ?_
              refine aw_icmp_neN (0 + bl n) 1 123 dX6_isFraction_116 (by decide) rfl rfl (by omega) (by omega) (fun c2 => absurd (by omega) c2) (fun c2 => ?_)
              refine aw_iconst (v := 1) dX6_isFraction_119 (by decide) ?_
              refine aw_goto 124 dX6_isFraction_120 (by decide) ?_
              refine aw_zret dX6_isFraction_124 rfl rfl (Nat.zero_le _) (Nat.zero_le _) ?_
              exact ⟨rfl, rfl⟩
            | true =>
              refine aw_iload_n dX6_isFraction_0 0 rfl ?_
              refine aw_bipush (v := 6) dX6_isFraction_1 (by decide) ?_
              refine aw_icmp_neN 7 6 12 dX6_isFraction_3 (by decide) rfl rfl (by omega) (by omega) (fun c1 => ?_) (fun c1 => absurd c1 (by decide))
              refine aw_ldc2 dX6_isFraction_12 kc_X6_302 ?_
              refine aw_lstore [(4, .long 9007199254740992), (0, .int (nI 7)), (1, .int (nI e)), (2, .long z)] dX6_isFraction_15 (Nat.le_of_ble_eq_true rfl) rfl ?_
              refine aw_lload_n dX6_isFraction_17 3 rfl ?_
              refine aw_lconst (v := 0) dX6_isFraction_18 (by decide) ?_
              refine aw_lne 33 dX6_isFraction_19 dX6_isFraction_20 (by decide) (fun c2 => ?_) (fun c2 => absurd c2 hz.1)
              refine aw_iload_n dX6_isFraction_33 2 rfl ?_
              refine aw_bipush (v := 66) dX6_isFraction_34 (by decide) ?_
              refine aw_icmp_gtN e 66 64 dX6_isFraction_36 (by decide) rfl rfl (by omega) (by omega) (fun c3 => absurd c3 (by omega)) (fun c3 => ?_)
              refine aw_lload_n dX6_isFraction_39 3 rfl ?_
              refine aw_ldc2 dX6_isFraction_40 kc_X6_304 ?_
              refine aw_lrem dX6_isFraction_43 (by decide) ?_
              refine aw_lconst (v := 0) dX6_isFraction_44 (by decide) ?_
              refine aw_leq 64 dX6_isFraction_45 dX6_isFraction_46 (by decide) (fun c4 => absurd (hz.2.1.mp c4) co) (fun c4 => ?_)
              refine aw_lload_n dX6_isFraction_49 3 rfl ?_
              refine aw_lload dX6_isFraction_50 0 rfl ?_
              refine aw_lge 64 dX6_isFraction_52 dX6_isFraction_53 (by decide) (fun c5 => absurd ((hz.2.2.1 9007199254740992 (by decide)).mp c5) (fun z => (by cases z.1))) (fun c5 => ?_)
              refine aw_lload_n dX6_isFraction_56 3 rfl ?_
              refine aw_lload dX6_isFraction_57 0 rfl ?_
              refine aw_lneg dX6_isFraction_59 ?_
              refine aw_lgt 66 dX6_isFraction_60 dX6_isFraction_61 (by decide) (fun c6 => ?_) (fun c6 => absurd ((hz.2.2.2.1 9007199254740992 (by decide) (by decide)).mpr (Or.inr cn)) c6)
              refine aw_lload_n dX6_isFraction_66 3 rfl ?_
              refine aw_lconst (v := 0) dX6_isFraction_67 (by decide) ?_
              refine aw_lge 77 dX6_isFraction_68 dX6_isFraction_69 (by decide) (fun c7 => absurd (hz.2.2.2.2.1.mp c7) (by decide)) (fun c7 => ?_)
              refine aw_lload_n dX6_isFraction_72 3 rfl ?_
              refine aw_lneg dX6_isFraction_73 ?_
              refine aw_goto 78 dX6_isFraction_74 (by decide) ?_
              refine aw_toplE (hz.2.2.2.2.2.1 rfl) ?_
              refine aw_lstore [(6, .long (lN n)), (4, .long 9007199254740992), (0, .int (nI 7)), (1, .int (nI e)), (2, .long z)] dX6_isFraction_78 (Nat.le_of_ble_eq_true rfl) rfl ?_
              refine aw_iconst (v := 0) dX6_isFraction_80 (by decide) ?_
              refine aw_istore [(8, .int 0), (6, .long (lN n)), (4, .long 9007199254740992), (0, .int (nI 7)), (1, .int (nI e)), (2, .long z)] dX6_isFraction_81 (Nat.le_of_ble_eq_true rfl) rfl ?_
              refine lp_if 63 n 0 hn (by decide) ?_
              refine aw_iload dX6_isFraction_104 0 rfl ?_
              refine aw_iload_n dX6_isFraction_106 4 rfl ?_
              refine aw_iaddN (0 + bl n) e dX6_isFraction_107 rfl rfl ?_
              refine aw_bipush (v := 66) dX6_isFraction_108 (by decide) ?_
              refine aw_icmp_leN ((0 + bl n) + e) 66 119 dX6_isFraction_110 (by decide) rfl rfl (by omega) (by omega) (fun c1 => absurd c1 (by omega)) (fun c1 => ?_)
              refine aw_iload dX6_isFraction_113 0 rfl ?_
              refine aw_iconst (v := 1) dX6_isFraction_115 (by decide) ?_
              refine aw_icmp_neN (0 + bl n) 1 123 dX6_isFraction_116 (by decide) rfl rfl (by omega) (by omega) (fun c2 => absurd (by omega) c2) (fun c2 => ?_)
              refine aw_iconst (v := 1) dX6_isFraction_119 (by decide) ?_
              refine aw_goto 124 dX6_isFraction_120 (by decide) ?_
              refine aw_zret dX6_isFraction_124 rfl rfl (Nat.zero_le _) (Nat.zero_le _) ?_
              exact ⟨rfl, rfl⟩
          · have hl0 : ¬ n.log2 = 0 := fun q => c1 (h1l q)
            rw [show scB 7 n e = false from decide_eq_false (fun z => by rcases z.2.2.2 with z | z; exact c1 z; omega)]
            show AW _ 0 _ _ M 0 0 (dt (some (.int 0)) M)
            cases s with
            | false =>
              refine aw_iload_n dX6_isFraction_0 0 rfl ?_
              refine aw_bipush (v := 6) dX6_isFraction_1 (by decide) ?_
              refine aw_icmp_neN 7 6 12 dX6_isFraction_3 (by decide) rfl rfl (by omega) (by omega) (fun c1 => ?_) (fun c1 => absurd c1 (by decide))
              refine aw_ldc2 dX6_isFraction_12 kc_X6_302 ?_
              refine aw_lstore [(4, .long 9007199254740992), (0, .int (nI 7)), (1, .int (nI e)), (2, .long z)] dX6_isFraction_15 (Nat.le_of_ble_eq_true rfl) rfl ?_
              refine aw_lload_n dX6_isFraction_17 3 rfl ?_
              refine aw_lconst (v := 0) dX6_isFraction_18 (by decide) ?_
              refine aw_lne 33 dX6_isFraction_19 dX6_isFraction_20 (by decide) (fun c2 => ?_) (fun c2 => absurd c2 hz.1)
              refine aw_iload_n dX6_isFraction_33 2 rfl ?_
              refine aw_bipush (v := 66) dX6_isFraction_34 (by decide) ?_
              refine aw_icmp_gtN e 66 64 dX6_isFraction_36 (by decide) rfl rfl (by omega) (by omega) (fun c3 => absurd c3 (by omega)) (fun c3 => ?_)
              refine aw_lload_n dX6_isFraction_39 3 rfl ?_
              refine aw_ldc2 dX6_isFraction_40 kc_X6_304 ?_
              refine aw_lrem dX6_isFraction_43 (by decide) ?_
              refine aw_lconst (v := 0) dX6_isFraction_44 (by decide) ?_
              refine aw_leq 64 dX6_isFraction_45 dX6_isFraction_46 (by decide) (fun c4 => absurd (hz.2.1.mp c4) co) (fun c4 => ?_)
              refine aw_lload_n dX6_isFraction_49 3 rfl ?_
              refine aw_lload dX6_isFraction_50 0 rfl ?_
              refine aw_lge 64 dX6_isFraction_52 dX6_isFraction_53 (by decide) (fun c5 => absurd ((hz.2.2.1 9007199254740992 (by decide)).mp c5) (fun z => (by have := z.2; omega))) (fun c5 => ?_)
              refine aw_lload_n dX6_isFraction_56 3 rfl ?_
              refine aw_lload dX6_isFraction_57 0 rfl ?_
              refine aw_lneg dX6_isFraction_59 ?_
              refine aw_lgt 66 dX6_isFraction_60 dX6_isFraction_61 (by decide) (fun c6 => ?_) (fun c6 => absurd ((hz.2.2.2.1 9007199254740992 (by decide) (by decide)).mpr (Or.inl rfl)) c6)
              refine aw_lload_n dX6_isFraction_66 3 rfl ?_
              refine aw_lconst (v := 0) dX6_isFraction_67 (by decide) ?_
              refine aw_lge 77 dX6_isFraction_68 dX6_isFraction_69 (by decide) (fun c7 => ?_) (fun c7 => absurd (hz.2.2.2.2.1.mpr rfl) c7)
              refine aw_lload_n dX6_isFraction_77 3 rfl ?_
              refine aw_toplE (hz.2.2.2.2.2.2 rfl) ?_
              refine aw_lstore [(6, .long (lN n)), (4, .long 9007199254740992), (0, .int (nI 7)), (1, .int (nI e)), (2, .long z)] dX6_isFraction_78 (Nat.le_of_ble_eq_true rfl) rfl ?_
              refine aw_iconst (v := 0) dX6_isFraction_80 (by decide) ?_
              refine aw_istore [(8, .int 0), (6, .long (lN n)), (4, .long 9007199254740992), (0, .int (nI 7)), (1, .int (nI e)), (2, .long z)] dX6_isFraction_81 (Nat.le_of_ble_eq_true rfl) rfl ?_
              refine lp_if 63 n 0 hn (by decide) ?_
              refine aw_iload dX6_isFraction_104 0 rfl ?_
              refine aw_iload_n dX6_isFraction_106 4 rfl ?_
              refine aw_iaddN (0 + bl n) e dX6_isFraction_107 rfl rfl ?_
              refine aw_bipush (v := 66) dX6_isFraction_108 (by decide) ?_
              refine aw_icmp_leN ((0 + bl n) + e) 66 119 dX6_isFraction_110 (by decide) rfl rfl (by omega) (by omega) (fun c1 => absurd c1 (by omega)) (fun c1 => ?_)
              refine aw_iload dX6_isFraction_113 0 rfl ?_
              refine aw_iconst (v := 1) dX6_isFraction_115 (by decide) ?_
              refine aw_icmp_neN (0 + bl n) 1 123 dX6_isFraction_116 (by decide) rfl rfl (by omega) (by omega) (fun c2 => ?_) (fun c2 => absurd c2 (by omega))
              refine aw_iconst (v := 0) dX6_isFraction_123 (by decide) ?_
              refine aw_zret dX6_isFraction_124 rfl rfl (Nat.zero_le _) (Nat.zero_le _) ?_
              exact ⟨rfl, rfl⟩
            | true =>
              refine aw_iload_n dX6_isFraction_0 0 rfl ?_
              refine aw_bipush (v := 6) dX6_isFraction_1 (by decide) ?_
              refine aw_icmp_neN 7 6 12 dX6_isFraction_3 (by decide) rfl rfl (by omega) (by omega) (fun c1 => ?_) (fun c1 => absurd c1 (by decide))
              refine aw_ldc2 dX6_isFraction_12 kc_X6_302 ?_
              refine aw_lstore [(4, .long 9007199254740992), (0, .int (nI 7)), (1, .int (nI e)), (2, .long z)] dX6_isFraction_15 (Nat.le_of_ble_eq_true rfl) rfl ?_
              refine aw_lload_n dX6_isFraction_17 3 rfl ?_
              refine aw_lconst (v := 0) dX6_isFraction_18 (by decide) ?_
              refine aw_lne 33 dX6_isFraction_19 dX6_isFraction_20 (by decide) (fun c2 => ?_) (fun c2 => absurd c2 hz.1)
              refine aw_iload_n dX6_isFraction_33 2 rfl ?_
              refine aw_bipush (v := 66) dX6_isFraction_34 (by decide) ?_
              refine aw_icmp_gtN e 66 64 dX6_isFraction_36 (by decide) rfl rfl (by omega) (by omega) (fun c3 => absurd c3 (by omega)) (fun c3 => ?_)
              refine aw_lload_n dX6_isFraction_39 3 rfl ?_
              refine aw_ldc2 dX6_isFraction_40 kc_X6_304 ?_
              refine aw_lrem dX6_isFraction_43 (by decide) ?_
              refine aw_lconst (v := 0) dX6_isFraction_44 (by decide) ?_
              refine aw_leq 64 dX6_isFraction_45 dX6_isFraction_46 (by decide) (fun c4 => absurd (hz.2.1.mp c4) co) (fun c4 => ?_)
              refine aw_lload_n dX6_isFraction_49 3 rfl ?_
              refine aw_lload dX6_isFraction_50 0 rfl ?_
              refine aw_lge 64 dX6_isFraction_52 dX6_isFraction_53 (by decide) (fun c5 => absurd ((hz.2.2.1 9007199254740992 (by decide)).mp c5) (fun z => (by cases z.1))) (fun c5 => ?_)
              refine aw_lload_n dX6_isFraction_56 3 rfl ?_
              refine aw_lload dX6_isFraction_57 0 rfl ?_
              refine aw_lneg dX6_isFraction_59 ?_
              refine aw_lgt 66 dX6_isFraction_60 dX6_isFraction_61 (by decide) (fun c6 => ?_) (fun c6 => absurd ((hz.2.2.2.1 9007199254740992 (by decide) (by decide)).mpr (Or.inr cn)) c6)
              refine aw_lload_n dX6_isFraction_66 3 rfl ?_
              refine aw_lconst (v := 0) dX6_isFraction_67 (by decide) ?_
              refine aw_lge 77 dX6_isFraction_68 dX6_isFraction_69 (by decide) (fun c7 => absurd (hz.2.2.2.2.1.mp c7) (by decide)) (fun c7 => ?_)
              refine aw_lload_n dX6_isFraction_72 3 rfl ?_
              refine aw_lneg dX6_isFraction_73 ?_
              refine aw_goto 78 dX6_isFraction_74 (by decide) ?_
              refine aw_toplE (hz.2.2.2.2.2.1 rfl) ?_
              refine aw_lstore [(6, .long (lN n)), (4, .long 9007199254740992), (0, .int (nI 7)), (1, .int (nI e)), (2, .long z)] dX6_isFraction_78 (Nat.le_of_ble_eq_true rfl) rfl ?_
              refine aw_iconst (v := 0) dX6_isFraction_80 (by decide) ?_
              refine aw_istore [(8, .int 0), (6, .long (lN n)), (4, .long 9007199254740992), (0, .int (nI 7)), (1, .int (nI e)), (2, .long z)] dX6_isFraction_81 (Nat.le_of_ble_eq_true rfl) rfl ?_
              refine lp_if 63 n 0 hn (by decide) ?_
              refine aw_iload dX6_isFraction_104 0 rfl ?_
              refine aw_iload_n dX6_isFraction_106 4 rfl ?_
              refine aw_iaddN (0 + bl n) e dX6_isFraction_107 rfl rfl ?_
              refine aw_bipush (v := 66) dX6_isFraction_108 (by decide) ?_
              refine aw_icmp_leN ((0 + bl n) + e) 66 119 dX6_isFraction_110 (by decide) rfl rfl (by omega) (by omega) (fun c1 => absurd c1 (by omega)) (fun c1 => ?_)
              refine aw_iload dX6_isFraction_113 0 rfl ?_
              refine aw_iconst (v := 1) dX6_isFraction_115 (by decide) ?_
              refine aw_icmp_neN (0 + bl n) 1 123 dX6_isFraction_116 (by decide) rfl rfl (by omega) (by omega) (fun c2 => ?_) (fun c2 => absurd c2 (by omega))
              refine aw_iconst (v := 0) dX6_isFraction_123 (by decide) ?_
              refine aw_zret dX6_isFraction_124 rfl rfl (Nat.zero_le _) (Nat.zero_le _) ?_
              exact ⟨rfl, rfl⟩
      · rw [show scB 7 n e = false from decide_eq_false (fun z => cn z.2.2.1)]
        show AW _ 0 _ _ M 0 0 (dt (some (.int 0)) M)
        cases s with
        | false =>
          refine aw_iload_n dX6_isFraction_0 0 rfl ?_
          refine aw_bipush (v := 6) dX6_isFraction_1 (by decide) ?_
          refine aw_icmp_neN 7 6 12 dX6_isFraction_3 (by decide) rfl rfl (by omega) (by omega) (fun c1 => ?_) (fun c1 => absurd c1 (by decide))
          refine aw_ldc2 dX6_isFraction_12 kc_X6_302 ?_
          refine aw_lstore [(4, .long 9007199254740992), (0, .int (nI 7)), (1, .int (nI e)), (2, .long z)] dX6_isFraction_15 (Nat.le_of_ble_eq_true rfl) rfl ?_
          refine aw_lload_n dX6_isFraction_17 3 rfl ?_
          refine aw_lconst (v := 0) dX6_isFraction_18 (by decide) ?_
          refine aw_lne 33 dX6_isFraction_19 dX6_isFraction_20 (by decide) (fun c2 => ?_) (fun c2 => absurd c2 hz.1)
          refine aw_iload_n dX6_isFraction_33 2 rfl ?_
          refine aw_bipush (v := 66) dX6_isFraction_34 (by decide) ?_
          refine aw_icmp_gtN e 66 64 dX6_isFraction_36 (by decide) rfl rfl (by omega) (by omega) (fun c3 => absurd c3 (by omega)) (fun c3 => ?_)
          refine aw_lload_n dX6_isFraction_39 3 rfl ?_
          refine aw_ldc2 dX6_isFraction_40 kc_X6_304 ?_
          refine aw_lrem dX6_isFraction_43 (by decide) ?_
          refine aw_lconst (v := 0) dX6_isFraction_44 (by decide) ?_
          refine aw_leq 64 dX6_isFraction_45 dX6_isFraction_46 (by decide) (fun c4 => absurd (hz.2.1.mp c4) co) (fun c4 => ?_)
          refine aw_lload_n dX6_isFraction_49 3 rfl ?_
          refine aw_lload dX6_isFraction_50 0 rfl ?_
          refine aw_lge 64 dX6_isFraction_52 dX6_isFraction_53 (by decide) (fun c5 => ?_) (fun c5 => absurd ((hz.2.2.1 9007199254740992 (by decide)).mpr ⟨rfl, by omega⟩) c5)
          refine aw_iconst (v := 0) dX6_isFraction_64 (by decide) ?_
          refine aw_zret dX6_isFraction_65 rfl rfl (Nat.zero_le _) (Nat.zero_le _) ?_
          exact ⟨rfl, rfl⟩
        | true =>
          refine aw_iload_n dX6_isFraction_0 0 rfl ?_
          refine aw_bipush (v := 6) dX6_isFraction_1 (by decide) ?_
          refine aw_icmp_neN 7 6 12 dX6_isFraction_3 (by decide) rfl rfl (by omega) (by omega) (fun c1 => ?_) (fun c1 => absurd c1 (by decide))
          refine aw_ldc2 dX6_isFraction_12 kc_X6_302 ?_
          refine aw_lstore [(4, .long 9007199254740992), (0, .int (nI 7)), (1, .int (nI e)), (2, .long z)] dX6_isFraction_15 (Nat.le_of_ble_eq_true rfl) rfl ?_
          refine aw_lload_n dX6_isFraction_17 3 rfl ?_
          refine aw_lconst (v := 0) dX6_isFraction_18 (by decide) ?_
          refine aw_lne 33 dX6_isFraction_19 dX6_isFraction_20 (by decide) (fun c2 => ?_) (fun c2 => absurd c2 hz.1)
          refine aw_iload_n dX6_isFraction_33 2 rfl ?_
          refine aw_bipush (v := 66) dX6_isFraction_34 (by decide) ?_
          refine aw_icmp_gtN e 66 64 dX6_isFraction_36 (by decide) rfl rfl (by omega) (by omega) (fun c3 => absurd c3 (by omega)) (fun c3 => ?_)
          refine aw_lload_n dX6_isFraction_39 3 rfl ?_
          refine aw_ldc2 dX6_isFraction_40 kc_X6_304 ?_
          refine aw_lrem dX6_isFraction_43 (by decide) ?_
          refine aw_lconst (v := 0) dX6_isFraction_44 (by decide) ?_
          refine aw_leq 64 dX6_isFraction_45 dX6_isFraction_46 (by decide) (fun c4 => absurd (hz.2.1.mp c4) co) (fun c4 => ?_)
          refine aw_lload_n dX6_isFraction_49 3 rfl ?_
          refine aw_lload dX6_isFraction_50 0 rfl ?_
          refine aw_lge 64 dX6_isFraction_52 dX6_isFraction_53 (by decide) (fun c5 => absurd ((hz.2.2.1 9007199254740992 (by decide)).mp c5) (fun z => (by cases z.1))) (fun c5 => ?_)
          refine aw_lload_n dX6_isFraction_56 3 rfl ?_
          refine aw_lload dX6_isFraction_57 0 rfl ?_
          refine aw_lneg dX6_isFraction_59 ?_
          refine aw_lgt 66 dX6_isFraction_60 dX6_isFraction_61 (by decide) (fun c6 => absurd ((hz.2.2.2.1 9007199254740992 (by decide) (by decide)).mp c6) (fun z => by rcases z with z | z; cases z; omega)) (fun c6 => ?_)
          refine aw_iconst (v := 0) dX6_isFraction_64 (by decide) ?_
          refine aw_zret dX6_isFraction_65 rfl rfl (Nat.zero_le _) (Nat.zero_le _) ?_
          exact ⟨rfl, rfl⟩
  · rw [show scB 7 n e = false from decide_eq_false (fun z => c6 z.2.1)]
    show AW _ 0 _ _ M 0 0 (dt (some (.int 0)) M)
    refine aw_iload_n dX6_isFraction_0 0 rfl ?_
    refine aw_bipush (v := 6) dX6_isFraction_1 (by decide) ?_
    refine aw_icmp_neN 7 6 12 dX6_isFraction_3 (by decide) rfl rfl (by omega) (by omega) (fun c1 => ?_) (fun c1 => absurd c1 (by decide))
    refine aw_ldc2 dX6_isFraction_12 kc_X6_302 ?_
    refine aw_lstore [(4, .long 9007199254740992), (0, .int (nI 7)), (1, .int (nI e)), (2, .long z)] dX6_isFraction_15 (Nat.le_of_ble_eq_true rfl) rfl ?_
    refine aw_lload_n dX6_isFraction_17 3 rfl ?_
    refine aw_lconst (v := 0) dX6_isFraction_18 (by decide) ?_
    refine aw_lne 33 dX6_isFraction_19 dX6_isFraction_20 (by decide) (fun c2 => ?_) (fun c2 => absurd c2 hz.1)
    refine aw_iload_n dX6_isFraction_33 2 rfl ?_
    refine aw_bipush (v := 66) dX6_isFraction_34 (by decide) ?_
    refine aw_icmp_gtN e 66 64 dX6_isFraction_36 (by decide) rfl rfl (by omega) (by omega) (fun c3 => ?_) (fun c3 => absurd (by omega) c3)
    refine aw_iconst (v := 0) dX6_isFraction_64 (by decide) ?_
    refine aw_zret dX6_isFraction_65 rfl rfl (Nat.zero_le _) (Nat.zero_le _) ?_
    exact ⟨rfl, rfl⟩
theorem sp_ifz {d : Nat} {M : xM} {k e : Nat} (hk : k = 6 ∨ k = 7) (he : e < 256) : Sp (fX6_isFraction d) [.int (nI k), .int (nI e), .long 0] M (dt (some (.int (bz (decide (e = 0))))) M) := by
  refine Sp.of pn_X6 (Nat.le_of_ble_eq_true rfl) (fun h => Bool.noConfusion h) ?_
  by_cases c : e = 0
  · rw [decide_eq_true c]
    show AW _ 0 _ _ M 0 0 (dt (some (.int 1)) M)
    rcases hk with rfl | rfl
    · refine aw_iload_n dX6_isFraction_0 0 rfl ?_
      refine aw_bipush (v := 6) dX6_isFraction_1 (by decide) ?_
      refine aw_icmp_neN 6 6 12 dX6_isFraction_3 (by decide) rfl rfl (by omega) (by omega) (fun c1 => absurd rfl c1) (fun c1 => ?_)
      refine aw_ldc2 dX6_isFraction_6 kc_X6_300 ?_
      refine aw_goto 15 dX6_isFraction_9 (by decide) ?_
      refine aw_lstore [(4, .long 16777216), (0, .int (nI 6)), (1, .int (nI e)), (2, .long 0)] dX6_isFraction_15 (Nat.le_of_ble_eq_true rfl) rfl ?_
      refine aw_lload_n dX6_isFraction_17 3 rfl ?_
      refine aw_lconst (v := 0) dX6_isFraction_18 (by decide) ?_
      refine aw_lne 33 dX6_isFraction_19 dX6_isFraction_20 (by decide) (fun c2 => absurd rfl c2) (fun c2 => ?_)
      refine aw_iload_n dX6_isFraction_23 2 rfl ?_
      refine aw_if_ne 31 dX6_isFraction_24 (by decide) (fun c3 => absurd ((nI_z (by omega)).mpr c) c3) (fun c3 => ?_)
      refine aw_iconst (v := 1) dX6_isFraction_27 (by decide) ?_
      refine aw_goto 32 dX6_isFraction_28 (by decide) ?_
      refine aw_zret dX6_isFraction_32 rfl rfl (Nat.zero_le _) (Nat.zero_le _) ?_
      exact ⟨rfl, rfl⟩
    · refine aw_iload_n dX6_isFraction_0 0 rfl ?_
      refine aw_bipush (v := 6) dX6_isFraction_1 (by decide) ?_
      refine aw_icmp_neN 7 6 12 dX6_isFraction_3 (by decide) rfl rfl (by omega) (by omega) (fun c1 => ?_) (fun c1 => absurd c1 (by decide))
      refine aw_ldc2 dX6_isFraction_12 kc_X6_302 ?_
      refine aw_lstore [(4, .long 9007199254740992), (0, .int (nI 7)), (1, .int (nI e)), (2, .long 0)] dX6_isFraction_15 (Nat.le_of_ble_eq_true rfl) rfl ?_
      refine aw_lload_n dX6_isFraction_17 3 rfl ?_
      refine aw_lconst (v := 0) dX6_isFraction_18 (by decide) ?_
      refine aw_lne 33 dX6_isFraction_19 dX6_isFraction_20 (by decide) (fun c2 => absurd rfl c2) (fun c2 => ?_)
      refine aw_iload_n dX6_isFraction_23 2 rfl ?_
      refine aw_if_ne 31 dX6_isFraction_24 (by decide) (fun c3 => absurd ((nI_z (by omega)).mpr c) c3) (fun c3 => ?_)
      refine aw_iconst (v := 1) dX6_isFraction_27 (by decide) ?_
      refine aw_goto 32 dX6_isFraction_28 (by decide) ?_
      refine aw_zret dX6_isFraction_32 rfl rfl (Nat.zero_le _) (Nat.zero_le _) ?_
      exact ⟨rfl, rfl⟩
  · rw [decide_eq_false c]
    show AW _ 0 _ _ M 0 0 (dt (some (.int 0)) M)
    rcases hk with rfl | rfl
    · refine aw_iload_n dX6_isFraction_0 0 rfl ?_
      refine aw_bipush (v := 6) dX6_isFraction_1 (by decide) ?_
      refine aw_icmp_neN 6 6 12 dX6_isFraction_3 (by decide) rfl rfl (by omega) (by omega) (fun c1 => absurd rfl c1) (fun c1 => ?_)
      refine aw_ldc2 dX6_isFraction_6 kc_X6_300 ?_
      refine aw_goto 15 dX6_isFraction_9 (by decide) ?_
      refine aw_lstore [(4, .long 16777216), (0, .int (nI 6)), (1, .int (nI e)), (2, .long 0)] dX6_isFraction_15 (Nat.le_of_ble_eq_true rfl) rfl ?_
      refine aw_lload_n dX6_isFraction_17 3 rfl ?_
      refine aw_lconst (v := 0) dX6_isFraction_18 (by decide) ?_
      refine aw_lne 33 dX6_isFraction_19 dX6_isFraction_20 (by decide) (fun c2 => absurd rfl c2) (fun c2 => ?_)
      refine aw_iload_n dX6_isFraction_23 2 rfl ?_
      refine aw_if_ne 31 dX6_isFraction_24 (by decide) (fun c3 => ?_) (fun c3 => absurd ((nI_z (by omega)).mp c3) c)
      refine aw_iconst (v := 0) dX6_isFraction_31 (by decide) ?_
      refine aw_zret dX6_isFraction_32 rfl rfl (Nat.zero_le _) (Nat.zero_le _) ?_
      exact ⟨rfl, rfl⟩
    · refine aw_iload_n dX6_isFraction_0 0 rfl ?_
      refine aw_bipush (v := 6) dX6_isFraction_1 (by decide) ?_
      refine aw_icmp_neN 7 6 12 dX6_isFraction_3 (by decide) rfl rfl (by omega) (by omega) (fun c1 => ?_) (fun c1 => absurd c1 (by decide))
      refine aw_ldc2 dX6_isFraction_12 kc_X6_302 ?_
      refine aw_lstore [(4, .long 9007199254740992), (0, .int (nI 7)), (1, .int (nI e)), (2, .long 0)] dX6_isFraction_15 (Nat.le_of_ble_eq_true rfl) rfl ?_
      refine aw_lload_n dX6_isFraction_17 3 rfl ?_
      refine aw_lconst (v := 0) dX6_isFraction_18 (by decide) ?_
      refine aw_lne 33 dX6_isFraction_19 dX6_isFraction_20 (by decide) (fun c2 => absurd rfl c2) (fun c2 => ?_)
      refine aw_iload_n dX6_isFraction_23 2 rfl ?_
      refine aw_if_ne 31 dX6_isFraction_24 (by decide) (fun c3 => ?_) (fun c3 => absurd ((nI_z (by omega)).mp c3) c)
      refine aw_iconst (v := 0) dX6_isFraction_31 (by decide) ?_
      refine aw_zret dX6_isFraction_32 rfl rfl (Nat.zero_le _) (Nat.zero_le _) ?_
      exact ⟨rfl, rfl⟩
theorem sp_ifm {d : Nat} {M : xM} {k e : Nat} (hk : k = 6 ∨ k = 7) (he : e < 256) : Sp (fX6_isFraction d) [.int (nI k), .int (nI e), .long (-9223372036854775808)] M (dt (some (.int 0)) M) := by
  refine Sp.of pn_X6 (Nat.le_of_ble_eq_true rfl) (fun h => Bool.noConfusion h) ?_
  by_cases c6 : e ≤ 66
  · rcases hk with rfl | rfl
    · refine aw_iload_n dX6_isFraction_0 0 rfl ?_
      refine aw_bipush (v := 6) dX6_isFraction_1 (by decide) ?_
      refine aw_icmp_neN 6 6 12 dX6_isFraction_3 (by decide) rfl rfl (by omega) (by omega) (fun c1 => absurd rfl c1) (fun c1 => ?_)
      refine aw_ldc2 dX6_isFraction_6 kc_X6_300 ?_
      refine aw_goto 15 dX6_isFraction_9 (by decide) ?_
      refine aw_lstore [(4, .long 16777216), (0, .int (nI 6)), (1, .int (nI e)), (2, .long (-9223372036854775808))] dX6_isFraction_15 (Nat.le_of_ble_eq_true rfl) rfl ?_
      refine aw_lload_n dX6_isFraction_17 3 rfl ?_
      refine aw_lconst (v := 0) dX6_isFraction_18 (by decide) ?_
      refine aw_lne 33 dX6_isFraction_19 dX6_isFraction_20 (by decide) (fun c2 => ?_) (fun c2 => absurd c2 (by decide))
      refine aw_iload_n dX6_isFraction_33 2 rfl ?_
      refine aw_bipush (v := 66) dX6_isFraction_34 (by decide) ?_
      refine aw_icmp_gtN e 66 64 dX6_isFraction_36 (by decide) rfl rfl (by omega) (by omega) (fun c3 => absurd c3 (by omega)) (fun c3 => ?_)
      refine aw_lload_n dX6_isFraction_39 3 rfl ?_
      refine aw_ldc2 dX6_isFraction_40 kc_X6_304 ?_
      refine aw_lrem dX6_isFraction_43 (by decide) ?_
      refine aw_lconst (v := 0) dX6_isFraction_44 (by decide) ?_
      refine aw_leq 64 dX6_isFraction_45 dX6_isFraction_46 (by decide) (fun c4 => ?_) (fun c4 => absurd (by decide) c4)
      refine aw_iconst (v := 0) dX6_isFraction_64 (by decide) ?_
      refine aw_zret dX6_isFraction_65 rfl rfl (Nat.zero_le _) (Nat.zero_le _) ?_
      exact ⟨rfl, rfl⟩
    · refine aw_iload_n dX6_isFraction_0 0 rfl ?_
      refine aw_bipush (v := 6) dX6_isFraction_1 (by decide) ?_
      refine aw_icmp_neN 7 6 12 dX6_isFraction_3 (by decide) rfl rfl (by omega) (by omega) (fun c1 => ?_) (fun c1 => absurd c1 (by decide))
      refine aw_ldc2 dX6_isFraction_12 kc_X6_302 ?_
      refine aw_lstore [(4, .long 9007199254740992), (0, .int (nI 7)), (1, .int (nI e)), (2, .long (-9223372036854775808))] dX6_isFraction_15 (Nat.le_of_ble_eq_true rfl) rfl ?_
      refine aw_lload_n dX6_isFraction_17 3 rfl ?_
      refine aw_lconst (v := 0) dX6_isFraction_18 (by decide) ?_
      refine aw_lne 33 dX6_isFraction_19 dX6_isFraction_20 (by decide) (fun c2 => ?_) (fun c2 => absurd c2 (by decide))
      refine aw_iload_n dX6_isFraction_33 2 rfl ?_
      refine aw_bipush (v := 66) dX6_isFraction_34 (by decide) ?_
      refine aw_icmp_gtN e 66 64 dX6_isFraction_36 (by decide) rfl rfl (by omega) (by omega) (fun c3 => absurd c3 (by omega)) (fun c3 => ?_)
      refine aw_lload_n dX6_isFraction_39 3 rfl ?_
      refine aw_ldc2 dX6_isFraction_40 kc_X6_304 ?_
      refine aw_lrem dX6_isFraction_43 (by decide) ?_
      refine aw_lconst (v := 0) dX6_isFraction_44 (by decide) ?_
      refine aw_leq 64 dX6_isFraction_45 dX6_isFraction_46 (by decide) (fun c4 => ?_) (fun c4 => absurd (by decide) c4)
      refine aw_iconst (v := 0) dX6_isFraction_64 (by decide) ?_
      refine aw_zret dX6_isFraction_65 rfl rfl (Nat.zero_le _) (Nat.zero_le _) ?_
      exact ⟨rfl, rfl⟩
  · rcases hk with rfl | rfl
    · refine aw_iload_n dX6_isFraction_0 0 rfl ?_
      refine aw_bipush (v := 6) dX6_isFraction_1 (by decide) ?_
      refine aw_icmp_neN 6 6 12 dX6_isFraction_3 (by decide) rfl rfl (by omega) (by omega) (fun c1 => absurd rfl c1) (fun c1 => ?_)
      refine aw_ldc2 dX6_isFraction_6 kc_X6_300 ?_
      refine aw_goto 15 dX6_isFraction_9 (by decide) ?_
      refine aw_lstore [(4, .long 16777216), (0, .int (nI 6)), (1, .int (nI e)), (2, .long (-9223372036854775808))] dX6_isFraction_15 (Nat.le_of_ble_eq_true rfl) rfl ?_
      refine aw_lload_n dX6_isFraction_17 3 rfl ?_
      refine aw_lconst (v := 0) dX6_isFraction_18 (by decide) ?_
      refine aw_lne 33 dX6_isFraction_19 dX6_isFraction_20 (by decide) (fun c2 => ?_) (fun c2 => absurd c2 (by decide))
      refine aw_iload_n dX6_isFraction_33 2 rfl ?_
      refine aw_bipush (v := 66) dX6_isFraction_34 (by decide) ?_
      refine aw_icmp_gtN e 66 64 dX6_isFraction_36 (by decide) rfl rfl (by omega) (by omega) (fun c3 => ?_) (fun c3 => absurd (by omega) c3)
      refine aw_iconst (v := 0) dX6_isFraction_64 (by decide) ?_
      refine aw_zret dX6_isFraction_65 rfl rfl (Nat.zero_le _) (Nat.zero_le _) ?_
      exact ⟨rfl, rfl⟩
    · refine aw_iload_n dX6_isFraction_0 0 rfl ?_
      refine aw_bipush (v := 6) dX6_isFraction_1 (by decide) ?_
      refine aw_icmp_neN 7 6 12 dX6_isFraction_3 (by decide) rfl rfl (by omega) (by omega) (fun c1 => ?_) (fun c1 => absurd c1 (by decide))
      refine aw_ldc2 dX6_isFraction_12 kc_X6_302 ?_
      refine aw_lstore [(4, .long 9007199254740992), (0, .int (nI 7)), (1, .int (nI e)), (2, .long (-9223372036854775808))] dX6_isFraction_15 (Nat.le_of_ble_eq_true rfl) rfl ?_
      refine aw_lload_n dX6_isFraction_17 3 rfl ?_
      refine aw_lconst (v := 0) dX6_isFraction_18 (by decide) ?_
      refine aw_lne 33 dX6_isFraction_19 dX6_isFraction_20 (by decide) (fun c2 => ?_) (fun c2 => absurd c2 (by decide))
      refine aw_iload_n dX6_isFraction_33 2 rfl ?_
      refine aw_bipush (v := 66) dX6_isFraction_34 (by decide) ?_
      refine aw_icmp_gtN e 66 64 dX6_isFraction_36 (by decide) rfl rfl (by omega) (by omega) (fun c3 => ?_) (fun c3 => absurd (by omega) c3)
      refine aw_iconst (v := 0) dX6_isFraction_64 (by decide) ?_
      refine aw_zret dX6_isFraction_65 rfl rfl (Nat.zero_le _) (Nat.zero_le _) ?_
      exact ⟨rfl, rfl⟩
