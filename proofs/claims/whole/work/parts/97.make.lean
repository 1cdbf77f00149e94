-- MAKE: the face
theorem Rel_low {MC MR : xM} (h : RelS MC MR) : sX5_lowestEmpty MC = sX6_free MR := by
  unfold sX5_lowestEmpty sX6_free
  exact lst_congr 12 0 (fun j _ h2 => h.emp j (by omega))
theorem free_cases {MC MR : xM} {κ ζ : Nat → Nat} (hS : ∀ t, t < 12 → RelT MC MR κ ζ t) : sX6_free MR = -1 ∨ ∃ t, t < 12 ∧ sX6_free MR = nI t ∧ κ t = 16 := by
  unfold sX6_free
  rcases lst_or (rEmp MR) 12 0 with e | ⟨j, h1, h2, h3, h4⟩
  · exact Or.inl e
  · refine Or.inr ⟨j, by omega, h3, ?_⟩
    obtain ⟨g1, -, -, g4, -⟩ := hS j (by omega)
    rcases kdI_n _ g1 with e | ⟨q, e⟩
    · exact e
    · exfalso
      have h5 : mI MR 1 j < 0 := of_decide_eq_true h4
      rw [g4, e] at h5
      exact absurd (kdI_dec _ q).2.1 (Int32.not_le.mpr h5)
theorem inB {x : Int64} {n : Nat} (hn : n < 100000) (h : sX6_isIn x 0 (lN n) = true) : ¬ x < 0 ∧ ¬ lN n < x := by
  unfold sX6_isIn at h
  by_cases c1 : x < 0
  · rw [if_pos c1] at h; cases h
  · by_cases c2 : lN n < x
    · rw [if_neg c1, if_pos c2] at h; cases h
    · exact ⟨c1, c2⟩
theorem inN {x : Int64} {n : Nat} (hn : n < 100000) (h : sX6_isIn x 0 (lN n) = true) : ∃ b, b ≤ n ∧ x = lN b := by
  obtain ⟨h1, h2⟩ := inB hn h
  have a1 : ¬ x.toInt < (0 : Int) := fun z => h1 (Int64.lt_iff_toInt_lt.mpr z)
  have a2 : ¬ (lN n).toInt < x.toInt := fun z => h2 (Int64.lt_iff_toInt_lt.mpr z)
  rw [pk_lT (by omega)] at a2
  refine ⟨x.toInt.toNat, by omega, ?_⟩
  apply Int64.toInt_inj.mp
  rw [pk_lT (by omega)]
  omega
theorem mk_dec : ∀ k, k < 14 → ¬ nI k < (0 : Int32) ∧ ¬ (15 : Int32) < nI k ∧ ¬ nI k = (14 : Int32) ∧ ¬ nI k = (15 : Int32) ∧ nI k < (14 : Int32) ∧ ¬ (14 : Int32) ≤ nI k ∧ sX6_isIn (nI k).toInt64 0 13 = true := by decide +kernel
theorem fc_make : Fc_make Rel := by
  intro a0 a1 MC MR hR
  have hbt : ¬ bz true = 0 := by decide
  have hbf : bz false = 0 := rfl
  have n1 : ¬ (0 : Int32) ≤ -1 := by decide
  have key : sX5_make MC a0 a1 = sX6_make MR a0 a1 ∧ Rel (tX5_make MC a0 a1) (tX6_make MR a0 a1) := by
    have hl := Rel_low hR.2.2.2.1
    obtain ⟨κ, ζ, hS⟩ := hR.2.2.2.1
    have hfc := free_cases hS
    unfold sX5_make tX5_make sX6_make tX6_make
    rw [hl]
    by_cases hv : vp_in a0 16
    · obtain ⟨e0, b0⟩ := nI_cl hv
      generalize a0.toNatClampNeg = k at e0 b0
      subst e0
      by_cases k14 : k < 14
      · obtain ⟨d1, d2, d3, d4, d5, d6, d7⟩ := mk_dec k k14
        have hc : sX5_isContents (nI k) a1 = sX6_isIn a1 0 (lN 12) := by
          unfold sX5_isContents sX6_isIn
          rw [if_neg d4, if_neg d3]
          rfl
        have hc2 : sX6_isIn a1 0 12 = sX6_isIn a1 0 (lN 12) := rfl
        rw [hc, hc2, d7]
        simp only [if_neg d1, if_neg d2, if_neg d3, if_neg d4, if_pos d5, if_neg d6, if_neg hbt]
        cases hi : sX6_isIn a1 0 (lN 12) with
        | false =>
          simp only [if_pos hbf]
          exact ⟨by trivial, hR⟩
        | true =>
          simp only [if_neg hbt]
          rcases hfc with e | ⟨t, ht, e, het⟩
          · rw [e]
            simp only [if_neg n1]
            exact ⟨by trivial, hR⟩
          · rw [e]
            have hp : (0 : Int32) ≤ nI t := (kdI_dec t (by omega)).2.1
            simp only [if_pos hp]
            refine ⟨by trivial, ?_⟩
            obtain ⟨i1, i2⟩ := inB (by decide) hi
            obtain ⟨z1, z2⟩ := nI_cl (l2i_vp (n := 12) (by decide) i1 i2)
            rw [nI_clamp (by omega)]
            generalize hz : a1.toInt32.toNatClampNeg = z at z1 z2
            rw [z1]
            exact Rel_makeA hR hS het k14 (by omega)
      · rcases (by omega : k = 14 ∨ k = 15) with rfl | rfl
        · have hc : sX5_isContents (nI 14) a1 = sX6_isIn a1 0 (lN 5) := rfl
          have hc2 : sX6_isIn a1 0 5 = sX6_isIn a1 0 (lN 5) := rfl
          have d0 : ¬ nI 14 < (0 : Int32) := by decide
          have d1 : ¬ (15 : Int32) < nI 14 := by decide
          have d2 : nI 14 = (14 : Int32) := rfl
          have d3 : ¬ nI 14 = (15 : Int32) := by decide
          have d4 : ¬ nI 14 < (14 : Int32) := by decide
          have d5 : (14 : Int32) ≤ nI 14 := by decide
          have d6 : sX6_isIn (nI 14).toInt64 0 13 = false := by decide +kernel
          rw [hc, hc2, d6]
          simp only [if_neg d0, if_neg d1, if_pos d2, if_neg d3, if_neg d4, if_pos d5, if_pos hbf]
          cases hi : sX6_isIn a1 0 (lN 5) with
          | false =>
            simp only [if_pos hbf]
            exact ⟨by trivial, hR⟩
          | true =>
            simp only [if_neg hbt]
            rcases hfc with e | ⟨t, ht, e, het⟩
            · rw [e]
              simp only [if_neg n1]
              exact ⟨by trivial, hR⟩
            · rw [e]
              have hp : (0 : Int32) ≤ nI t := (kdI_dec t (by omega)).2.1
              simp only [if_pos hp]
              refine ⟨by trivial, ?_⟩
              obtain ⟨b, hb1, hb2⟩ := inN (by decide) hi
              rw [nI_clamp (by omega)]
              exact Rel_makeT hR hS het (by decide) (by decide) ⟨fun _ => ⟨b, by omega, hb2⟩, fun q => absurd q (by decide)⟩
        · have hc : sX5_isContents (nI 15) a1 = wrd a1 := rfl
          have d0 : ¬ nI 15 < (0 : Int32) := by decide
          have d1 : ¬ (15 : Int32) < nI 15 := by decide
          have d2 : ¬ nI 15 = (14 : Int32) := by decide
          have d3 : nI 15 = (15 : Int32) := rfl
          have d4 : ¬ nI 15 < (14 : Int32) := by decide
          have d5 : (14 : Int32) ≤ nI 15 := by decide
          have d6 : sX6_isIn (nI 15).toInt64 0 13 = false := by decide +kernel
          rw [hc, d6]
          simp only [if_neg d0, if_neg d1, if_neg d2, if_pos d3, if_neg d4, if_pos d5, if_pos hbf]
          cases hi : wrd a1 with
          | false =>
            simp only [if_pos hbf]
            exact ⟨by trivial, hR⟩
          | true =>
            simp only [if_neg hbt]
            rcases hfc with e | ⟨t, ht, e, het⟩
            · rw [e]
              simp only [if_neg n1]
              exact ⟨by trivial, hR⟩
            · rw [e]
              have hp : (0 : Int32) ≤ nI t := (kdI_dec t (by omega)).2.1
              simp only [if_pos hp]
              refine ⟨by trivial, ?_⟩
              rw [nI_clamp (by omega)]
              exact Rel_makeT hR hS het (by decide) (by decide) ⟨fun q => absurd q (by decide), fun _ => hi⟩
    · have f0 : (0 : Int32).toInt = 0 := rfl
      have f15 : (15 : Int32).toInt = 15 := rfl
      have n14 : ¬ a0 = 14 := fun e => hv (by rw [e]; exact vp_in_nI (n := 14) (by decide) (by decide))
      have n15 : ¬ a0 = 15 := fun e => hv (by rw [e]; exact vp_in_nI (n := 15) (by decide) (by decide))
      have hin : sX6_isIn a0.toInt64 0 13 = false := by
        cases h : sX6_isIn a0.toInt64 0 13 with
        | false => rfl
        | true =>
          exfalso
          obtain ⟨q1, q2⟩ := inB (n := 13) (by decide) h
          have g1 : ¬ a0.toInt64.toInt < (0 : Int) := fun z => q1 (Int64.lt_iff_toInt_lt.mpr z)
          have g2 : ¬ (13 : Int) < a0.toInt64.toInt := fun z => q2 (Int64.lt_iff_toInt_lt.mpr z)
          rw [Int32.toInt_toInt64] at g1 g2
          exact hv (by rw [vp_in_iff]; omega)
      rw [hin]
      simp only [if_pos hbf, if_neg n14, if_neg n15]
      by_cases c1 : a0 < 0
      · simp only [if_pos c1]
        exact ⟨by trivial, hR⟩
      · have c2 : 15 < a0 := by
          apply Int32.lt_iff_toInt_lt.mpr
          have g1 : ¬ a0.toInt < (0 : Int) := fun z => c1 (Int32.lt_iff_toInt_lt.mpr z)
          rcases Int.lt_or_le 15 a0.toInt with q | q
          · exact q
          · exact absurd (by rw [vp_in_iff]; omega) hv
        simp only [if_neg c1, if_pos c2]
        exact ⟨by trivial, hR⟩
  exact fcI (sp_X5_make (by decide) a0 a1 hR.1) (sp_X6_make (by decide) a0 a1 hR.2.1) key.1 key.2
