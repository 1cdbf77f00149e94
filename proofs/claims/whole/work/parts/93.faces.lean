theorem fc_swap : Fc_swap Rel := by
  intro a0 a1 a2 MC MR hR
  have hbt : ¬ bz true = 0 := by decide
  have hbf : bz false = 0 := rfl
  have n8 : ¬ (-8 : Int32) = 0 := by decide
  have key : sX5_swap MC a0 a1 a2 = sX6_swap MR a0 a1 a2 ∧ Rel (tX5_swap MC a0 a1 a2) (tX6_swap MR a0 a1 a2) := by
    obtain ⟨κ, ζ, hS⟩ := hR.2.2.2.1
    unfold sX5_swap tX5_swap sX6_swap tX6_swap
    rcases slot_cases a0 with ⟨s1, s2⟩ | ⟨t, ht, rfl, s1, s2⟩
    · have ep : ∀ x, sX5_placeError MC a0 x = -1 := fun x => by
        unfold sX5_placeError sX5_arrayError sX5_slotError
        rw [s1]; rfl
      rw [ep, s2]
      simp only [if_pos hbf, if_neg (show ¬ (-1 : Int32) = 0 by decide)]
      exact ⟨by trivial, hR⟩
    · have hT := hS t ht
      rw [placeE_of ht hT s1 a1, placeE_of ht hT s1 a2, refusal_of ht hT, s2]
      simp only [if_neg hbt]
      by_cases c : eA (κ t) = 0
      · have hk : κ t < 14 := by
          have := hT.1
          rcases eA_0 c with q | q <;> omega
        rw [isPlace_of ht hT (by omega) a1, isPlace_of ht hT (by omega) a2, c]
        simp only [↓reduceIte, if_pos (show (0 : Int32) ≤ 0 from Int32.le_refl _)]
        cases hp : sX2_hasPlace MC (54 + 3 * t) a1 with
        | false =>
          simp only [if_pos hbf, if_neg n8]
          exact ⟨by trivial, hR⟩
        | true =>
          simp only [if_neg hbt, ↓reduceIte]
          cases hq : sX2_hasPlace MC (54 + 3 * t) a2 with
          | false =>
            simp only [if_pos hbf, if_neg n8]
            exact ⟨by trivial, hR⟩
          | true =>
            obtain ⟨i, hi, rfl⟩ := has_lt hT.2.2.2.2.1 hT.2.1 hp
            obtain ⟨j, hj, rfl⟩ := has_lt hT.2.2.2.2.1 hT.2.1 hq
            have hz : ζ t ≤ 12 := hT.2.1
            simp only [if_neg hbt, ↓reduceIte]
            refine ⟨by trivial, ?_⟩
            rw [cell_at (by omega) (by omega), cell_at (by omega) (by omega), nI_clamp (by omega), nI_clamp (by omega), nI_clamp (by omega), mL_stI_c]
            exact Rel_swap hR hS ht hi hj
      · have hn : ¬ 0 ≤ eA (κ t) := by
          rcases eA_neg (κ t) with q | q | q
          · exact absurd q c
          · rw [q]; decide
          · rw [q]; decide
        simp only [if_neg c, if_neg hn]
        exact ⟨by trivial, hR⟩
  exact fcI (sp_X5_swap (by decide) a0 a1 a2 hR.1 hR.2.2.2.1.lnC) (sp_X6_swap (by decide) a0 a1 a2 hR.2.1 hR.2.2.1) key.1 key.2
