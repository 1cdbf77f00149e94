-- SCRATCH OF THE CLASS; ROWS FOR THE WRITERS
theorem Rel_scrC {MC MC' MR : xM} (hR : Rel MC MR) (hT : sT MC MC') (hI : ∀ a, a = 2 ∨ a = 3 ∨ 53 ≤ a → mI MC' a = mI MC a) (h0 : ∀ k, 10 ≤ k → mI MC' 0 k = mI MC 0 k) (hL : mL MC' = mL MC) : Rel MC' MR := by
  obtain ⟨a1, a2, a3, ⟨κ, ζ, hS⟩, a5, a6⟩ := hR
  refine ⟨hT.TC a1, a2, a3, ⟨κ, ζ, fun t ht => ?_⟩, ?_, ?_⟩
  · have q := hS t ht
    unfold RelT at q ⊢
    rw [hI (54 + 3 * t) (by omega), hI (54 + 3 * t + 1) (by omega), hL]
    exact q
  · unfold RelB at a5 ⊢
    rw [hI 2 (by omega), hI 3 (by omega), h0 10 (by omega)]
    exact a5
  · unfold RelO at a6 ⊢
    rw [h0 11 (by omega), h0 12 (by omega), h0 13 (by omega), hI 53 (by omega)]
    exact a6
theorem WrAt_of {M : xM} (hT : TC M) {w so : Nat} (h : (w = 46 ∧ so = 4) ∨ (w = 48 ∧ so = 6)) : WrAt M w 1 so := by
  rcases h with ⟨rfl, rfl⟩ | ⟨rfl, rfl⟩
  · exact ⟨hT.s 46 (by decide), hT.n 46 (by decide), hT.r 46 0 (by decide) (by decide), hT.r 46 1 (by decide) (by decide), hT.r 46 2 (by decide) (by decide), hT.s 47 (by decide), hT.n 47 (by decide), ⟨hT.s 4 (by decide), hT.s 5 (by decide), hT.r 4 0 (by decide) (by decide), hT.n 5 (by decide)⟩, hT.s 1 (by decide), hT.n 1 (by decide)⟩
  · exact ⟨hT.s 48 (by decide), hT.n 48 (by decide), hT.r 48 0 (by decide) (by decide), hT.r 48 1 (by decide) (by decide), hT.r 48 2 (by decide) (by decide), hT.s 49 (by decide), hT.n 49 (by decide), ⟨hT.s 6 (by decide), hT.s 7 (by decide), hT.r 6 0 (by decide) (by decide), hT.n 7 (by decide)⟩, hT.s 1 (by decide), hT.n 1 (by decide)⟩
