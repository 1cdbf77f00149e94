-- FACES: look, swap
theorem stI_comm (M : xM) {a b : Nat} (h : a ≠ b) (k j : Nat) (v w : Int32) : stI (stI M a k v) b j w = stI (stI M b j w) a k v := by
  unfold stI
  refine Prod.ext ?_ rfl
  funext x y
  show xup (xup M.1 a k v) b j w x y = xup (xup M.1 b j w) a k v x y
  unfold xup
  by_cases h1 : x = b
  · subst h1
    rw [if_pos rfl, if_neg (Ne.symm h), if_pos rfl, if_neg (Ne.symm h)]
  · rw [if_neg h1]
    by_cases h2 : x = a
    · subst h2
      rw [if_pos rfl, if_pos rfl, if_neg h1]
    · rw [if_neg h2, if_neg h2, if_neg h1]
theorem Rel_tells {MC MR : xM} (hR : Rel MC MR) (e w : Int32) : Rel (tX5_report MC e w) (tX6_tells MR e w) := by
  obtain ⟨h1, h2, h3, h4, ⟨len, pos, b1, b2, b3, b4, b5, b6, b7⟩, ⟨⟨m, hm, m1, m2⟩, o1, o2, o3, o4⟩⟩ := hR
  unfold tX5_report tX6_tells
  refine ⟨((sT.I MC 0 12 _).tr (sT.I _ 0 13 _)).TC h1, ((sT.I MR 0 9 _).tr (sT.I _ 0 10 _)).TR h2, h3.k ?_, (h4.st0 _ _ _ _).st0 _ _ _ _, ⟨len, pos, b1, b2, ?_, ?_, ?_, ?_, ?_⟩, ⟨m, hm, ?_, ?_⟩, ?_, ?_, ?_, ?_⟩
  · rw [mI_stI_c _ _ _ (by decide), mI_stI_c _ _ _ (by decide)]
  · rw [mI_stI_c _ _ _ (by decide), mI_stI_c _ _ _ (by decide)]; exact b3
  · rw [mI_stI_o _ _ _ _ (by decide), mI_stI_o _ _ _ _ (by decide)]; exact b4
  · rw [mI_stI_o _ _ _ _ (by decide), mI_stI_o _ _ _ _ (by decide)]; exact b5
  · rw [mI_stI_o _ _ _ _ (by decide), mI_stI_o _ _ _ _ (by decide)]; exact b6
  · intro i hi
    rw [mI_stI_c _ _ _ (by decide), mI_stI_c _ _ _ (by decide), mI_stI_c _ _ _ (by decide), mI_stI_c _ _ _ (by decide)]
    exact b7 i hi
  · rw [mI_stI_o _ _ _ _ (by decide), mI_stI_o _ _ _ _ (by decide)]; exact m1
  · rw [mI_stI_o _ _ _ _ (by decide), mI_stI_o _ _ _ _ (by decide)]; exact m2
  · rw [mI_stI_o _ _ _ _ (by decide), mI_stI_v, mI_stI_o _ _ _ _ (by decide), mI_stI_v]
  · rw [mI_stI_v, mI_stI_v]
  · intro k hk
    rw [mI_stI_c _ _ _ (by decide), mI_stI_c _ _ _ (by decide), mI_stI_c _ _ _ (by decide), mI_stI_c _ _ _ (by decide)]; exact o3 k hk
  · intro k hk
    rw [mL_stI_c, mL_stI_c]; exact o4 k hk
theorem Rel_tally {MC MR : xM} (hR : Rel MC MR) (e : Int32) : Rel (tX5_tally MC e) (tX6_counts MR e) := by
  have hR0 := hR
  obtain ⟨h1, h2, h3, h4, ⟨len, pos, b1, b2, b3, b4, b5, b6, b7⟩, ⟨⟨m, hm, m1, m2⟩, o1, o2, o3, o4⟩⟩ := hR
  unfold tX5_tally tX6_counts
  by_cases c1 : (-5) < e
  · rw [if_pos c1, if_pos c1]; exact hR0
  · rw [if_neg c1, if_neg c1]
    by_cases c2 : e < (-9)
    · rw [if_pos c2, if_pos c2]; exact hR0
    · rw [if_neg c2, if_neg c2]
      have hv := cnt_vp c1 c2
      have hj := vp_lt hv
      generalize ((-5) - e).toNatClampNeg = j at hj
      refine ⟨(sT.I MC 53 _ _).TC h1, (sT.I MR 7 _ _).TR h2, h3.k ?_, h4.k (fun a ha => ⟨mI_stI_c _ _ _ (by omega), rfl⟩) (fun a g1 g2 => ⟨mI_stI_c _ _ _ (by omega), rfl⟩), ⟨len, pos, b1, b2, ?_, ?_, ?_, ?_, ?_⟩, ⟨m, hm, ?_, ?_⟩, ?_, ?_, ?_, ?_⟩
      · rw [mI_stI_c _ _ _ (by decide)]
      · rw [mI_stI_c _ _ _ (by decide)]; exact b3
      · rw [mI_stI_c _ _ _ (by decide)]; exact b4
      · rw [mI_stI_c _ _ _ (by decide)]; exact b5
      · rw [mI_stI_c _ _ _ (by decide)]; exact b6
      · intro i hi
        rw [mI_stI_c _ _ _ (by decide), mI_stI_c _ _ _ (by decide)]
        exact b7 i hi
      · rw [mI_stI_c _ _ _ (by decide)]; exact m1
      · rw [mI_stI_c _ _ _ (by decide)]; exact m2
      · rw [mI_stI_c _ _ _ (by decide), mI_stI_c _ _ _ (by decide)]; exact o1
      · rw [mI_stI_c _ _ _ (by decide), mI_stI_c _ _ _ (by decide)]; exact o2
      · intro k hk
        by_cases c : k = j
        · subst c
          rw [mI_stI_v, mI_stI_v, o3 k hk]
        · rw [mI_stI_o _ _ _ _ c, mI_stI_o _ _ _ _ c]; exact o3 k hk
      · intro k hk
        rw [mL_stI_c]; exact o4 k hk
theorem counts_tells (M : xM) (e f w : Int32) : tX6_counts (tX6_tells M f w) e = tX6_tells (tX6_counts M e) f w := by
  unfold tX6_counts tX6_tells
  by_cases c1 : (-5) < e
  · rw [if_pos c1, if_pos c1]
  · rw [if_neg c1, if_neg c1]
    by_cases c2 : e < (-9)
    · rw [if_pos c2, if_pos c2]
    · rw [if_neg c2, if_neg c2]
      rw [mI_stI_c _ _ _ (by decide), mI_stI_c _ _ _ (by decide), stI_comm _ (by decide), stI_comm M (by decide)]
theorem Rel_look {MC MR : xM} (hR : Rel MC MR) (e w : Int32) : Rel (tX5_report (tX5_tally MC e) e w) (tX6_counts (tX6_tells MR e w) e) := by
  rw [counts_tells]
  exact Rel_tells (Rel_tally hR e) e w
theorem tally_0 (M : xM) {e : Int32} (h : (-5) < e) : tX5_tally M e = M := if_pos h
theorem i64_lt (a b : Int32) : a.toInt64 < b.toInt64 ↔ a < b := by rw [Int64.lt_iff_toInt_lt, Int32.lt_iff_toInt_lt, Int32.toInt_toInt64, Int32.toInt_toInt64]
theorem i64_le (a b : Int32) : a.toInt64 ≤ b.toInt64 ↔ a ≤ b := by rw [Int64.le_iff_toInt_le, Int32.le_iff_toInt_le, Int32.toInt_toInt64, Int32.toInt_toInt64]
theorem isPlace_of {MC MR : xM} {κ ζ : Nat → Nat} {t : Nat} (ht : t < 12) (h : RelT MC MR κ ζ t) (hk : κ t < 16) (x : Int32) : sX6_isPlace MR (nI t) x.toInt64 = sX2_hasPlace MC (54 + 3 * t) x := by
  obtain ⟨h1, h2, h3, h4, h5, h6, -⟩ := h
  unfold sX6_isPlace sX2_hasPlace
  rw [nI_clamp (by omega), h6 hk, h5]
  have e0 : (x.toInt64 < 0) = (x < 0) := propext (i64_lt x 0)
  have e1 : ((nI (ζ t)).toInt64 ≤ x.toInt64) = (nI (ζ t) ≤ x) := propext (i64_le _ _)
  simp only [e0, e1]
theorem placeE_of {MC MR : xM} {κ ζ : Nat → Nat} {t : Nat} (ht : t < 12) (h : RelT MC MR κ ζ t) (hs : sX5_isSlot (nI t).toInt64 = true) (x : Int32) : sX5_placeError MC (nI t) x = if eA (κ t) = 0 then (if bz (sX2_hasPlace MC (54 + 3 * t) x) = 0 then -8 else 0) else eA (κ t) := by
  unfold sX5_placeError
  rw [arrayE_of ht h hs, nI_clamp (by omega)]
theorem eA_0 {k : Nat} (h : eA k = 0) : k < 14 ∨ 16 < k := by
  unfold eA at h
  by_cases c1 : k = 16
  · rw [if_pos c1] at h; exact absurd h (by decide)
  · rw [if_neg c1] at h
    by_cases c2 : 14 ≤ k
    · rw [if_pos c2] at h; exact absurd h (by decide)
    · exact Or.inl (by omega)
theorem eA_neg (k : Nat) : eA k = 0 ∨ (eA k = -5 ∨ eA k = -6) := by
  unfold eA
  split
  · exact Or.inr (Or.inl rfl)
  · split
    · exact Or.inr (Or.inr rfl)
    · exact Or.inl rfl
theorem has_lt {MC : xM} {a z : Nat} {x : Int32} (hz : mI MC a 1 = nI z) (hz2 : z ≤ 12) (h : sX2_hasPlace MC a x = true) : ∃ i, i < z ∧ x = nI i := by
  unfold sX2_hasPlace at h
  rw [hz] at h
  by_cases c1 : x < 0
  · rw [if_pos c1] at h; cases h
  · by_cases c2 : nI z ≤ x
    · rw [if_neg c1, if_pos c2] at h; cases h
    · have g1 : ¬ x.toInt < (0 : Int) := fun q => c1 (Int32.lt_iff_toInt_lt.mpr q)
      have g2 : ¬ (nI z).toInt ≤ x.toInt := fun q => c2 (Int32.le_iff_toInt_le.mpr q)
      rw [nI_toInt (by omega)] at g2
      have hv : vp_in x z := by rw [vp_in_iff]; omega
      obtain ⟨q1, q2⟩ := nI_cl hv
      exact ⟨_, q2, q1⟩
theorem cell_at {t i : Nat} (ht : t < 24) (hi : i < 12) : (12 * nI t + nI i).toNatClampNeg = 12 * t + i := by
  rw [(cell_sum (vp_in_nI ht (by decide)) (vp_in_nI hi (by decide))).2, nI_clamp (by omega), nI_clamp (by omega)]
theorem fc_look : Fc_look Rel := by
  intro a0 a1 a2 MC MR hR
  have hm : ((a2 < 0 ∨ ¬ a2 ≤ 1) ∧ sX6_isIn a2.toInt64 0 1 = false) ∨ ((¬ a2 < 0 ∧ a2 ≤ 1) ∧ sX6_isIn a2.toInt64 0 1 = true) := by
    unfold sX6_isIn
    have e0 : (a2.toInt64 < 0) = (a2 < 0) := propext (i64_lt a2 0)
    have e1 : (1 < a2.toInt64) = (1 < a2) := propext (i64_lt 1 a2)
    simp only [e0, e1]
    by_cases c1 : a2 < 0
    · rw [if_pos c1]; exact Or.inl ⟨Or.inl c1, rfl⟩
    · rw [if_neg c1]
      by_cases c2 : 1 < a2
      · rw [if_pos c2]; exact Or.inl ⟨Or.inr (Int32.not_le.mpr c2), rfl⟩
      · rw [if_neg c2]; exact Or.inr ⟨⟨c1, Int32.not_lt.mp c2⟩, rfl⟩
  have hbt : ¬ bz true = 0 := by decide
  have hbf : bz false = 0 := rfl
  have key : sX5_look MC a0 a1 a2 = sX6_look MR a0 a1 a2 ∧ Rel (tX5_look MC a0 a1 a2) (tX6_look MR a0 a1 a2) := by
    have hbad : Rel (tX5_report (tX5_tally MC (-1)) (-1) (-1)) (tX6_tells MR (-1) (-1)) := by
      rw [tally_0 MC (by decide)]; exact Rel_tells hR _ _
    obtain ⟨κ, ζ, hS⟩ := hR.2.2.2.1
    unfold sX5_look tX5_look sX6_look tX6_look
    rcases hm with ⟨g, e⟩ | ⟨⟨g1, g2⟩, e⟩
    · rw [e]
      simp only [if_pos hbf, ite_self]
      rcases g with g | g
      · simp only [if_pos g]; exact ⟨by trivial, hbad⟩
      · simp only [if_neg g, ite_self]; exact ⟨by trivial, hbad⟩
    · rw [e]
      simp only [if_neg g1, if_pos g2, if_neg hbt]
      rcases slot_cases a0 with ⟨s1, s2⟩ | ⟨t, ht, rfl, s1, s2⟩
      · have ep : sX5_placeError MC a0 a1 = -1 := by
          unfold sX5_placeError sX5_arrayError sX5_slotError
          rw [s1]; rfl
        rw [ep, s2]
        simp only [if_pos hbf, if_neg (show ¬ (-1 : Int32) = 0 by decide)]
        exact ⟨by trivial, hbad⟩
      · have ep := placeE_of ht (hS t ht) s1 a1
        have er := refusal_of ht (hS t ht)
        have hT := hS t ht
        rw [ep, er, s2]
        simp only [if_neg hbt]
        by_cases c : eA (κ t) = 0
        · have hk : κ t < 14 := by
            have := hT.1
            rcases eA_0 c with q | q <;> omega
          rw [isPlace_of ht hT (by omega) a1, c]
          simp only [↓reduceIte]
          cases hp : sX2_hasPlace MC (54 + 3 * t) a1 with
          | false =>
            simp only [if_pos hbf, if_neg (show ¬ (-8 : Int32) = 0 by decide)]
            exact ⟨by trivial, Rel_look hR _ _⟩
          | true =>
            obtain ⟨h1, h2, h3, h4, h5, h6, h7, h8, h9⟩ := hT
            obtain ⟨i, hi, rfl⟩ := has_lt h5 h2 hp
            obtain ⟨w1, w2, -⟩ := h9 i hi
            simp only [if_neg hbt, ↓reduceIte, ite_self, tally_0 MC (show (-5 : Int32) < 0 by decide)]
            refine ⟨?_, Rel_tells hR _ _⟩
            rw [cell_at (by omega) (by omega), nI_clamp (by omega), nI_clamp (by omega)]
            unfold tX5_report tX6_tells
            rw [mI_stI_c _ _ _ (by omega), mI_stI_c _ _ _ (by omega), mI_stI_c _ _ _ (by omega), mI_stI_c _ _ _ (by omega), w1]
            simp only [mL_stI_c, w2]
        · simp only [if_neg c]
          exact ⟨by trivial, Rel_look hR _ _⟩
  exact fcL (sp_X5_look (by decide) a0 a1 a2 hR.1 hR.2.2.2.1.lnC) (sp_X6_look (by decide) a0 a1 a2 hR.2.1 hR.2.2.1) key.1 key.2
