-- THE REFERENCE WRITES AN ITEM
def LR (M0 : xM) (o : Nat) (ms : List Nat) (S : List (Nat × Nat)) (R : xM) : Prop :=
  sT M0 R ∧ mL R = mL M0 ∧ (∀ x, x ≠ 0 → x ≠ 8 → x ≠ 10 → x ≠ 11 → x ≠ 12 → x ≠ 13 → mI R x = mI M0 x) ∧ (∀ k, k ≠ 13 → k ≠ 17 → k ≠ 19 → mI R 0 k = mI M0 0 k) ∧ mI R 0 17 = nI ms.length ∧ (∀ t, t < 12 → mI R 10 (o + t) = if t ∈ ms then nI (ms.idxOf t) else -1) ∧ (∀ i, i < ms.length → mI R 11 i = nI (o + ms.getD i 0)) ∧ mI R 0 19 = nI S.length ∧ ∀ i, i < S.length → mI R 12 i = nI (o + (S.getD i (0, 0)).1) ∧ mI R 13 i = nI (S.getD i (0, 0)).2
theorem gD_l {α : Type} (l : List α) (x d : α) {i : Nat} (h : i < l.length) : (l ++ [x]).getD i d = l.getD i d := by simp [List.getElem?_append_left, h]
theorem gD_r {α : Type} (l : List α) (x d : α) : (l ++ [x]).getD l.length d = x := by simp
theorem len1 {α : Type} (l : List α) (x : α) : (l ++ [x]).length = l.length + 1 := by simp
theorem LR_pop {M0 : xM} {o : Nat} {ms : List Nat} {S : List (Nat × Nat)} {R : xM} {x : Nat × Nat} (h : LR M0 o ms (S ++ [x]) R) : LR M0 o ms S (stI R 0 19 (nI S.length)) := by
  obtain ⟨h1, h2, h3, h4, h5, h6, h7, h8, h9⟩ := h
  refine ⟨sT.tr h1 ⟨rfl, rfl, rfl⟩, h2, fun x a b c d e f => ?_, fun k a b c => ?_, ?_, fun t ht => ?_, fun i hi => ?_, mI_stI_v _ _ _ _, fun i hi => ?_⟩
  · rw [mI_stI_c _ _ _ a]; exact h3 x a b c d e f
  · rw [mI_stI_o _ _ _ _ c]; exact h4 k a b c
  · rw [mI_stI_o _ _ _ _ (by decide)]; exact h5
  · rw [mI_stI_c _ _ _ (by decide)]; exact h6 t ht
  · rw [mI_stI_c _ _ _ (by decide)]; exact h7 i hi
  · have q := h9 i (by rw [len1]; omega)
    rw [gD_l _ _ _ hi] at q
    rw [mI_stI_c _ _ _ (show (12 : Nat) ≠ 0 by decide), mI_stI_c _ _ _ (show (13 : Nat) ≠ 0 by decide)]
    exact q
theorem LR_nxt {M0 : xM} {o : Nat} {ms : List Nat} {S : List (Nat × Nat)} {R : xM} {t j : Nat} (j' : Nat) (h : LR M0 o ms (S ++ [(t, j)]) R) : LR M0 o ms (S ++ [(t, j')]) (stI R 13 S.length (nI j')) := by
  obtain ⟨h1, h2, h3, h4, h5, h6, h7, h8, h9⟩ := h
  rw [len1] at h8
  refine ⟨sT.tr h1 ⟨rfl, rfl, rfl⟩, h2, fun x a b c d e f => ?_, fun k a b c => ?_, ?_, fun t ht => ?_, fun i hi => ?_, ?_, fun i hi => ?_⟩
  · rw [mI_stI_c _ _ _ f]; exact h3 x a b c d e f
  · rw [mI_stI_c _ _ _ (by decide)]; exact h4 k a b c
  · rw [mI_stI_c _ _ _ (by decide)]; exact h5
  · rw [mI_stI_c _ _ _ (by decide)]; exact h6 t ht
  · rw [mI_stI_c _ _ _ (by decide)]; exact h7 i hi
  · rw [mI_stI_c _ _ _ (by decide), len1]; exact h8
  · rw [len1] at hi
    have q := h9 i (by rw [len1]; exact hi)
    rw [mI_stI_c _ _ _ (show (12 : Nat) ≠ 13 by decide)]
    by_cases c : i = S.length
    · subst c
      rw [gD_r] at q ⊢
      exact ⟨q.1, mI_stI_v _ _ _ _⟩
    · rw [gD_l _ _ _ (show i < S.length by omega)] at q ⊢
      rw [mI_stI_o _ _ _ _ c]
      exact q
theorem LR_met {M0 : xM} {o : Nat} {ms : List Nat} {S : List (Nat × Nat)} {R : xM} {u : Nat} (hn : u ∉ ms) (h : LR M0 o ms S R) : LR M0 o (ms ++ [u]) S (meM R ms.length (o + u)) := by
  obtain ⟨h1, h2, h3, h4, h5, h6, h7, h8, h9⟩ := h
  refine ⟨sT.tr h1 (sT_meM _ _ _), h2, fun x a b c d e f => ?_, fun k a b c => ?_, ?_, fun t ht => ?_, fun i hi => ?_, ?_, fun i hi => ?_⟩
  · rw [meM_I R a c d]; exact h3 x a b c d e f
  · rw [meM_0 R b]; exact h4 k a b c
  · rw [len1]; exact mI_stI_v _ _ _ _
  · unfold meM
    rw [mI_stI_c _ _ _ (show (10 : Nat) ≠ 0 by decide), mI_stI_c _ _ _ (show (10 : Nat) ≠ 11 by decide)]
    by_cases c : t = u
    · subst c
      rw [mI_stI_v, if_pos (by simp), List.idxOf_append, if_neg hn]
      simp
    · rw [mI_stI_o _ _ _ _ (show o + t ≠ o + u by omega), h6 t ht]
      by_cases c2 : t ∈ ms
      · rw [if_pos c2, if_pos (List.mem_append_left _ c2), List.idxOf_append, if_pos c2]
      · rw [if_neg c2, if_neg (by simp [c2, c])]
  · unfold meM
    rw [mI_stI_c _ _ _ (show (11 : Nat) ≠ 0 by decide)]
    rw [len1] at hi
    by_cases c : i = ms.length
    · subst c
      rw [mI_stI_v, gD_r]
    · rw [mI_stI_o _ _ _ _ c, mI_stI_c _ _ _ (show (11 : Nat) ≠ 10 by decide), gD_l _ _ _ (show i < ms.length by omega)]
      exact h7 i (by omega)
  · rw [meM_0 R (by decide)]; exact h8
  · rw [meM_I R (by decide) (by decide) (by decide), meM_I R (by decide) (by decide) (by decide)]
    exact h9 i hi
theorem LR_psh {M0 : xM} {o : Nat} {ms : List Nat} {S : List (Nat × Nat)} {R : xM} (u : Nat) (h : LR M0 o ms S R) : LR M0 o ms (S ++ [(u, 0)]) (puM R S.length (o + u)) := by
  obtain ⟨h1, h2, h3, h4, h5, h6, h7, h8, h9⟩ := h
  have e0 : ∀ k, k ≠ 19 → mI (puM R S.length (o + u)) 0 k = mI R 0 k := fun k hk => by
    unfold puM
    rw [mI_stI_o _ _ _ _ hk, mI_stI_c _ _ _ (show (0 : Nat) ≠ 13 by decide), mI_stI_c _ _ _ (show (0 : Nat) ≠ 12 by decide)]
  refine ⟨sT.tr h1 (sT_puM _ _ _), h2, fun x a b c d e f => ?_, fun k a b c => ?_, ?_, fun t ht => ?_, fun i hi => ?_, ?_, fun i hi => ?_⟩
  · rw [puM_I R a e f]; exact h3 x a b c d e f
  · rw [e0 k c]; exact h4 k a b c
  · rw [e0 17 (by decide)]; exact h5
  · rw [puM_I R (by decide) (by decide) (by decide)]; exact h6 t ht
  · rw [puM_I R (by decide) (by decide) (by decide)]; exact h7 i hi
  · rw [len1]; exact mI_stI_v _ _ _ _
  · rw [len1] at hi
    unfold puM
    rw [mI_stI_c _ _ _ (show (12 : Nat) ≠ 0 by decide), mI_stI_c _ _ _ (show (12 : Nat) ≠ 13 by decide), mI_stI_c _ _ _ (show (13 : Nat) ≠ 0 by decide)]
    by_cases c : i = S.length
    · subst c
      rw [gD_r, mI_stI_v, mI_stI_v]
      exact ⟨rfl, rfl⟩
    · rw [mI_stI_o _ _ _ _ c, mI_stI_o _ _ _ _ c, mI_stI_c _ _ _ (show (13 : Nat) ≠ 12 by decide), gD_l _ _ _ (show i < S.length by omega)]
      exact h9 i (by omega)
/-- rows as the reference holds them, from number o on -/
def RfD (M : xM) (o : Nat) (K Z : Nat → Nat) (W : Nat → Nat → Nat) (V : Nat → Nat → Int64) : Prop :=
  TR M ∧ o ≤ 12 ∧ lkOk K Z W V ∧ ∀ t, t < 12 → K t < 14 → mI M 1 (o + t) = nI (K t) ∧ mI M 2 (o + t) = nI (Z t) ∧ ∀ j, j < Z t → mI M 4 (12 * (o + t) + j) = nI (W t j) ∧ (W t j = 10 → mL M 5 (12 * (o + t) + j) = lN (o + lC (V t j))) ∧ (W t j ≠ 10 → mL M 5 (12 * (o + t) + j) = V t j) ∧ (W t j < 8 → okN (W t j) (V t j)) ∧ (W t j = 8 → 0 < lC (V t j) ∧ lC (V t j) < 27 ^ 7) ∧ (K t < 8 → W t j = K t)
