-- FACES: poke
theorem tX3_add_of {M : xM} {len : Nat} {b : Int32} (h : mI M 2 1 = nI len) (hl : len < 200) : tX3_add M 2 200 b = stI (stI M 3 len b) 2 1 (nI (len + 1)) := by
  unfold tX3_add
  have e : mI (stI M (2 + 1) (mI M 2 1).toNatClampNeg b) 2 1 = nI len := by rw [mI_stI_c _ _ _ (by decide)]; exact h
  rw [e, h, nI_clamp (by omega), if_pos (show nI len < Int32.ofNat 200 from (nI_ltI (by omega) (by omega)).mpr hl)]
  rw [show nI len + 1 = nI (len + 1) from nI_add len 1]
theorem bytes_upd {MC MR : xM} {len : Nat} (b7 : ∀ i, i < len → ∃ b, b < 256 ∧ mI MC 3 i = nI b ∧ mI MR 6 i = nI b) {p v len' : Nat} (hv : v < 256) (hl : ∀ i, i < len' → i < len ∨ i = p) : ∀ i, i < len' → ∃ b, b < 256 ∧ mI (stI MC 3 p (nI v)) 3 i = nI b ∧ mI (stI MR 6 p (nI v)) 6 i = nI b := by
  intro i hi
  by_cases c : i = p
  · subst c
    exact ⟨v, hv, mI_stI_v _ _ _ _, mI_stI_v _ _ _ _⟩
  · rw [mI_stI_o _ _ _ _ c, mI_stI_o _ _ _ _ c]
    rcases hl i hi with q | q
    · exact b7 i q
    · exact absurd q c
theorem fc_poke : Fc_poke Rel := by
  intro a0 a1 MC MR hR
  have hb : (∃ v, v < 256 ∧ a1 = nI v ∧ ¬ a1 < 0 ∧ a1 ≤ 255 ∧ sX6_isIn a1.toInt64 0 255 = true) ∨ ((a1 < 0 ∨ ¬ a1 ≤ 255) ∧ sX6_isIn a1.toInt64 0 255 = false) := by
    have e0 : (0 : Int64).toInt = 0 := rfl
    have e2 : (255 : Int64).toInt = 255 := rfl
    have f2 : (255 : Int32).toInt = 255 := rfl
    have f0 : (0 : Int32).toInt = 0 := rfl
    unfold sX6_isIn
    by_cases c1 : a1 < 0
    · have g := Int32.lt_iff_toInt_lt.mp c1
      have d1 : a1.toInt64 < 0 := Int64.lt_iff_toInt_lt.mpr (by rw [Int32.toInt_toInt64]; omega)
      rw [if_pos d1]
      exact Or.inr ⟨Or.inl c1, rfl⟩
    · have g : ¬ a1.toInt < 0 := fun z => c1 (Int32.lt_iff_toInt_lt.mpr z)
      have d1 : ¬ a1.toInt64 < 0 := fun z => by have := Int64.lt_iff_toInt_lt.mp z; rw [Int32.toInt_toInt64] at this; omega
      rw [if_neg d1]
      by_cases c2 : a1 ≤ 255
      · have g2 := Int32.le_iff_toInt_le.mp c2
        have d2 : ¬ 255 < a1.toInt64 := fun z => by have := Int64.lt_iff_toInt_lt.mp z; rw [Int32.toInt_toInt64] at this; omega
        rw [if_neg d2]
        have hv : vp_in a1 256 := by rw [vp_in_iff]; omega
        obtain ⟨q1, q2⟩ := nI_cl hv
        exact Or.inl ⟨_, q2, q1, c1, c2, rfl⟩
      · have g2 : ¬ a1.toInt ≤ 255 := fun z => c2 (Int32.le_iff_toInt_le.mpr z)
        have d2 : 255 < a1.toInt64 := Int64.lt_iff_toInt_lt.mpr (by rw [Int32.toInt_toInt64]; omega)
        rw [if_pos d2]
        exact Or.inr ⟨Or.inr c2, rfl⟩
  have key : sX5_poke MC a0 a1 = sX6_poke MR a0 a1 ∧ Rel (tX5_poke MC a0 a1) (tX6_poke MR a0 a1) := by
    have hR0 := hR
    obtain ⟨h1, h2, h3, h4, ⟨len, pos, b1, b2, b3, b4, b5, b6, b7⟩, ⟨⟨m, hm, m1, m2⟩, o1, o2, o3, o4⟩⟩ := hR
    have e6 : ∀ k v, mI (stI MR 6 k v) 0 6 = nI len := fun k v => by rw [mI_stI_c _ _ _ (by decide)]; exact b4
    unfold sX5_poke sX6_poke tX5_poke tX6_poke
    rw [b3, b4]
    simp only [e6]
    by_cases c1 : a0 < 0
    · simp only [if_pos c1]; exact ⟨by trivial, hR0⟩
    simp only [if_neg c1]
    by_cases c2 : nI len < a0
    · simp only [if_pos c2]; exact ⟨by trivial, hR0⟩
    simp only [if_neg c2]
    rcases hb with ⟨v, hv, rfl, g1, g2, g3⟩ | ⟨g1, g3⟩
    · have hb0 : ¬ bz true = 0 := by decide
      rw [g3]
      simp only [if_neg g1, if_pos g2, if_neg hb0]
      obtain ⟨p, hp, rfl⟩ := le_cases (n := len) (by omega) c1 (Int32.not_lt.mp c2)
      by_cases c3 : p = 200
      · subst c3
        have q1 : ¬ nI 200 < 200 := by decide
        have q2 : nI 200 = 200 := rfl
        rw [if_neg q1, if_neg q1, if_pos q2, if_pos q2]
        exact ⟨by trivial, hR0⟩
      · have q1 : nI p < 200 := (nI_ltI (b := 200) (by omega) (by omega)).mpr (by omega)
        have q2 : ¬ nI p = 200 := fun z => c3 (nI_injI (b := 200) (by omega) (by omega) z)
        simp only [if_pos q1, if_neg q2, nI_clamp (show p < 2147483648 by omega)]
        by_cases c4 : p = len
        · subst c4
          have q5 : nI p ≤ nI p := Int32.le_refl _
          simp only [if_pos q5, ↓reduceIte, ite_self]
          refine ⟨by trivial, ?_⟩
          rw [tX3_add_of b3 (by omega), show nI p + 1 = nI (p + 1) from nI_add p 1]
          refine ⟨((sT.I MC 3 _ _).tr (sT.I _ 2 1 _)).TC h1, ((sT.I MR 6 _ _).tr (sT.I _ 0 6 _)).TR h2, h3.k ?_, ?_, ⟨p + 1, pos, by omega, by omega, mI_stI_v _ _ _ _, mI_stI_v _ _ _ _, ?_, ?_, ?_⟩, ⟨m, hm, ?_, ?_⟩, ?_, ?_, ?_, ?_⟩
          · rw [mI_stI_c _ _ _ (by decide), mI_stI_c _ _ _ (by decide)]
          · refine h4.k (fun a ha => ⟨?_, rfl⟩) (fun a g1 g2 => ⟨?_, rfl⟩)
            · rw [mI_stI_c _ _ _ (by omega), mI_stI_c _ _ _ (by omega)]
            · rw [mI_stI_c _ _ _ (by omega), mI_stI_c _ _ _ (by omega)]
          · rw [mI_stI_c _ _ _ (by decide), mI_stI_c _ _ _ (by decide)]; exact b5
          · rw [mI_stI_o _ _ _ _ (by decide), mI_stI_c _ _ _ (by decide)]; exact b6
          · rw [mI_stI_c (stI MC 3 p (nI v)) _ _ (show (3 : Nat) ≠ 2 by decide), mI_stI_c (stI MR 6 p (nI v)) _ _ (show (6 : Nat) ≠ 0 by decide)]
            exact bytes_upd b7 hv (fun i hi => by omega)
          · rw [mI_stI_c _ _ _ (by decide), mI_stI_c _ _ _ (by decide)]; exact m1
          · rw [mI_stI_o _ _ _ _ (by decide), mI_stI_c _ _ _ (by decide)]; exact m2
          · rw [mI_stI_c _ _ _ (by decide), mI_stI_c _ _ _ (by decide), mI_stI_o _ _ _ _ (by decide), mI_stI_c _ _ _ (by decide)]; exact o1
          · rw [mI_stI_c _ _ _ (by decide), mI_stI_c _ _ _ (by decide), mI_stI_o _ _ _ _ (by decide), mI_stI_c _ _ _ (by decide)]; exact o2
          · intro k hk
            rw [mI_stI_c _ _ _ (by decide), mI_stI_c _ _ _ (by decide), mI_stI_c _ _ _ (by decide), mI_stI_c _ _ _ (by decide)]; exact o3 k hk
          · intro k hk
            rw [mL_stI_c, mL_stI_c]; exact o4 k hk
        · have q3 : ¬ nI p = nI len := fun z => c4 (nI_injI (by omega) (by omega) z)
          have q4 : ¬ nI len ≤ nI p := fun z => by have := (nI_leI (by omega) (by omega)).mp z; omega
          simp only [if_neg q3, if_neg q4]
          obtain ⟨b, hb1, hb2, hb3⟩ := b7 p (by omega)
          have eh : sX3_has MC 2 (nI p) = true := by
            unfold sX3_has
            rw [b3, if_neg c1, if_neg q4]
          refine ⟨?_, ?_⟩
          · unfold sX3_at
            rw [b3, if_neg c1, if_neg q4, nI_clamp (by omega), hb3]
            exact hb2
          · unfold tX3_replace
            rw [eh, if_neg (by decide), nI_clamp (by omega)]
            refine ⟨(sT.I MC 3 _ _).TC h1, ((sT.I MR 6 _ _).tr (sT.I _ 0 6 _)).TR h2, h3.k ?_, ?_, ⟨len, pos, by omega, by omega, ?_, mI_stI_v _ _ _ _, ?_, ?_, ?_⟩, ⟨m, hm, ?_, ?_⟩, ?_, ?_, ?_, ?_⟩
            · rw [mI_stI_c _ _ _ (by decide), mI_stI_c _ _ _ (by decide)]
            · refine h4.k (fun a ha => ⟨?_, rfl⟩) (fun a g1 g2 => ⟨?_, rfl⟩)
              · rw [mI_stI_c _ _ _ (by omega)]
              · rw [mI_stI_c _ _ _ (by omega), mI_stI_c _ _ _ (by omega)]
            · rw [mI_stI_c _ _ _ (by decide)]; exact b3
            · rw [mI_stI_c _ _ _ (by decide)]; exact b5
            · rw [mI_stI_o _ _ _ _ (by decide), mI_stI_c _ _ _ (by decide)]; exact b6
            · rw [mI_stI_c (stI MR 6 p (nI v)) _ _ (by decide)]
              exact bytes_upd b7 hv (fun i hi => Or.inl hi)
            · rw [mI_stI_c _ _ _ (by decide)]; exact m1
            · rw [mI_stI_o _ _ _ _ (by decide), mI_stI_c _ _ _ (by decide)]; exact m2
            · rw [mI_stI_c _ _ _ (by decide), mI_stI_o _ _ _ _ (by decide), mI_stI_c _ _ _ (by decide)]; exact o1
            · rw [mI_stI_c _ _ _ (by decide), mI_stI_o _ _ _ _ (by decide), mI_stI_c _ _ _ (by decide)]; exact o2
            · intro k hk
              rw [mI_stI_c _ _ _ (by decide), mI_stI_c _ _ _ (by decide), mI_stI_c _ _ _ (by decide)]; exact o3 k hk
            · intro k hk
              rw [mL_stI_c, mL_stI_c]; exact o4 k hk
    · rw [g3]
      have hb0 : bz false = 0 := rfl
      simp only [if_pos hb0]
      rcases g1 with g1 | g1
      · simp only [if_pos g1]; exact ⟨by trivial, hR0⟩
      · simp only [if_neg g1, ite_self]; exact ⟨by trivial, hR0⟩
  exact fcI (sp_X5_poke (by decide) a0 a1 hR.1 (Rel.tapC hR.2.2.2.2.1)) (sp_X6_poke (by decide) a0 a1 hR.2.1 (Rel.tapR hR.2.2.2.2.1)) key.1 key.2
