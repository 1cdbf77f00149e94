-- FACES: those without loops
theorem RelS.k {MC MC' MR MR' : xM} (h : RelS MC MR) (hc : ∀ a, 54 ≤ a → mI MC' a = mI MC a ∧ mL MC' a = mL MC a) (hr : ∀ a, 1 ≤ a → a ≤ 5 → mI MR' a = mI MR a ∧ mL MR' a = mL MR a) : RelS MC' MR' := by
  obtain ⟨κ, ζ, hS⟩ := h
  refine ⟨κ, ζ, fun t ht => ?_⟩
  have h := hS t ht
  unfold RelT at h ⊢
  rw [(hc (54 + 3 * t) (by omega)).1, (hc (54 + 3 * t + 1) (by omega)).1, (hc (54 + 3 * t + 2) (by omega)).2, (hr 1 (by omega) (by omega)).1, (hr 2 (by omega) (by omega)).1, (hr 3 (by omega) (by omega)).2, (hr 4 (by omega) (by omega)).1, (hr 5 (by omega) (by omega)).2]
  exact h
theorem LenR.k {M M' : xM} (h : LenR M) (he : mI M' 2 = mI M 2) : LenR M' := by
  unfold LenR
  rw [he]
  exact h
theorem mI_stI_c (M : xM) {a b : Nat} (k : Nat) (v : Int32) (h : b ≠ a) : mI (stI M a k v) b = mI M b := xup_n _ k v h
theorem mL_stI_c (M : xM) (a b k : Nat) (v : Int32) : mL (stI M a k v) b = mL M b := rfl
theorem mI_stL_c (M : xM) (a b k : Nat) (v : Int64) : mI (stL M a k v) b = mI M b := rfl
theorem mL_stL_c (M : xM) {a b : Nat} (k : Nat) (v : Int64) (h : b ≠ a) : mL (stL M a k v) b = mL M b := xup_n _ k v h
theorem mI_stI_v (M : xM) (a k : Nat) (v : Int32) : mI (stI M a k v) a k = v := xup_s _ a k v
theorem mI_stI_o (M : xM) (a b : Nat) {k j : Nat} (v : Int32) (h : j ≠ k) : mI (stI M a k v) b j = mI M b j := xup_k _ a v h b
theorem RelS.st0 {MC MR : xM} (h : RelS MC MR) (k j : Nat) (v w : Int32) : RelS (stI MC 0 k v) (stI MR 0 j w) :=
  h.k (fun a ha => ⟨mI_stI_c _ _ _ (by omega), rfl⟩) (fun a h1 h2 => ⟨mI_stI_c _ _ _ (by omega), rfl⟩)
theorem fc_mode : Fc_mode Rel := by
  intro a0 MC MR hR
  have hm : (sX5_isMode a0 = false ∧ sX6_isIn a0.toInt64 0 2 = false) ∨ ∃ m, m < 3 ∧ a0 = nI m ∧ sX5_isMode a0 = true ∧ sX6_isIn a0.toInt64 0 2 = true := by
    unfold sX5_isMode sX6_isIn
    have e0 : (0 : Int64).toInt = 0 := rfl
    have e2 : (2 : Int64).toInt = 2 := rfl
    have f2 : (2 : Int32).toInt = 2 := rfl
    have f0 : (0 : Int32).toInt = 0 := rfl
    by_cases c1 : a0 < 0
    · have d1 : a0.toInt64 < 0 := Int64.lt_iff_toInt_lt.mpr (by have := Int32.lt_iff_toInt_lt.mp c1; rw [Int32.toInt_toInt64]; omega)
      rw [if_pos c1, if_pos d1]
      exact Or.inl ⟨rfl, rfl⟩
    · have d1 : ¬ a0.toInt64 < 0 := fun z => c1 (Int32.lt_iff_toInt_lt.mpr (by have := Int64.lt_iff_toInt_lt.mp z; rw [Int32.toInt_toInt64] at this; omega))
      rw [if_neg c1, if_neg d1]
      by_cases c2 : 2 < a0
      · have d2 : 2 < a0.toInt64 := Int64.lt_iff_toInt_lt.mpr (by have := Int32.lt_iff_toInt_lt.mp c2; rw [Int32.toInt_toInt64]; omega)
        rw [if_pos c2, if_pos d2]
        exact Or.inl ⟨rfl, rfl⟩
      · have d2 : ¬ 2 < a0.toInt64 := fun z => c2 (Int32.lt_iff_toInt_lt.mpr (by have := Int64.lt_iff_toInt_lt.mp z; rw [Int32.toInt_toInt64] at this; omega))
        rw [if_neg c2, if_neg d2]
        have hv : vp_in a0 3 := by
          rw [vp_in_iff]
          have g1 : ¬ a0.toInt < (0 : Int) := fun z => c1 (Int32.lt_iff_toInt_lt.mpr z)
          have g2 : ¬ (2 : Int) < a0.toInt := fun z => c2 (Int32.lt_iff_toInt_lt.mpr z)
          omega
        obtain ⟨q1, q2⟩ := nI_cl hv
        exact Or.inr ⟨_, q2, q1, rfl, rfl⟩
  refine fcI (sp_X5_mode (by decide) a0 hR.1) (sp_X6_mode (by decide) a0 hR.2.1) ?_ ?_
  · obtain ⟨-, -, -, -, -, ⟨⟨m, -, h1, h2⟩, -⟩⟩ := hR
    unfold sX5_mode sX6_mode
    rcases hm with ⟨e1, e2⟩ | ⟨m', -, -, e1, e2⟩
    · rw [e1, e2]; rfl
    · rw [e1, e2, h1, h2]
  · unfold tX5_mode tX6_mode
    rcases hm with ⟨e1, e2⟩ | ⟨m', hm', ea, e1, e2⟩
    · rw [e1, e2]; exact hR
    · rw [e1, e2, if_neg (by decide), if_neg (by decide)]
      obtain ⟨h1, h2, h3, h4, ⟨len, pos, b1, b2, b3, b4, b5, b6, b7⟩, ⟨-, o1, o2, o3, o4⟩⟩ := hR
      refine ⟨(sT.I MC 0 11 a0).TC h1, (sT.I MR 0 8 a0).TR h2, h3.k (mI_stI_c _ _ _ (by decide)), h4.st0 _ _ _ _, ⟨len, pos, b1, b2, ?_, ?_, ?_, ?_, ?_⟩, ⟨m', hm', ?_, ?_⟩, ?_, ?_, ?_, ?_⟩
      · rw [mI_stI_c _ _ _ (by decide)]; exact b3
      · rw [mI_stI_o _ _ _ _ (by decide)]; exact b4
      · rw [mI_stI_o _ _ _ _ (by decide)]; exact b5
      · rw [mI_stI_o _ _ _ _ (by decide)]; exact b6
      · intro i hi
        rw [mI_stI_c _ _ _ (by decide), mI_stI_c _ _ _ (by decide)]
        exact b7 i hi
      · rw [mI_stI_v]; exact ea
      · rw [mI_stI_v]; exact ea
      · rw [mI_stI_o _ _ _ _ (by decide), mI_stI_o _ _ _ _ (by decide)]; exact o1
      · rw [mI_stI_o _ _ _ _ (by decide), mI_stI_o _ _ _ _ (by decide)]; exact o2
      · intro k hk
        rw [mI_stI_c _ _ _ (by decide), mI_stI_c _ _ _ (by decide)]; exact o3 k hk
      · intro k hk
        rw [mL_stI_c]; exact o4 k hk
