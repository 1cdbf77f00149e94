-- COPYOF
theorem mI_cpI_o (M : xM) (a b x y n : Nat) {c : Nat} (h : c ≠ b) : mI (cpI M a b x y n) c = mI M c := if_neg h
theorem mL_cpL_o (M : xM) (a b x y n : Nat) {c : Nat} (h : c ≠ b) : mL (cpL M a b x y n) c = mL M c := if_neg h
theorem mI_cpI_c (M : xM) (a b : Nat) {i : Nat} (h : i < 12) : mI (cpI M a b 0 0 12) b i = mI M a i := by
  show (if b = b then va_cpy (M.1 a) (M.1 b) 0 0 12 else M.1 b) i = M.1 a i
  rw [if_pos rfl]
  unfold va_cpy
  rw [if_pos (by omega), show 0 + (i - 0) = i by omega]
theorem mL_cpL_c (M : xM) (a b : Nat) {i : Nat} (h : i < 12) : mL (cpL M a b 0 0 12) b i = mL M a i := by
  show (if b = b then va_cpy (M.2.1 a) (M.2.1 b) 0 0 12 else M.2.1 b) i = M.2.1 a i
  rw [if_pos rfl]
  unfold va_cpy
  rw [if_pos (by omega), show 0 + (i - 0) = i by omega]
theorem beL_oI (M : xM) (a b : Nat) {c : Nat} (h1 : c ≠ a) (h2 : c ≠ a + 1) : mI (tX2_beLike M a b) c = mI M c := by
  unfold tX2_beLike
  show mI (cpI _ _ _ _ _ _) c = _
  rw [mI_cpI_o _ _ _ _ _ _ h2, mI_stI_c _ _ _ h1, mI_stI_c _ _ _ h1]
theorem beL_oL (M : xM) (a b : Nat) {c : Nat} (h : c ≠ a + 2) : mL (tX2_beLike M a b) c = mL M c := by
  unfold tX2_beLike
  rw [mL_cpL_o _ _ _ _ _ _ h]
  rfl
theorem beL_0 (M : xM) (a b : Nat) : mI (tX2_beLike M a b) a 0 = mI M b 0 := by
  unfold tX2_beLike
  show mI (cpI _ _ _ _ _ _) a 0 = _
  rw [mI_cpI_o _ _ _ _ _ _ (by omega), mI_stI_o _ _ _ _ (by decide), mI_stI_v]
theorem beL_1 (M : xM) (a b : Nat) : mI (tX2_beLike M a b) a 1 = mI M b 1 := by
  unfold tX2_beLike
  show mI (cpI _ _ _ _ _ _) a 1 = _
  rw [mI_cpI_o _ _ _ _ _ _ (by omega), mI_stI_v, mI_stI_o _ _ _ _ (by decide)]
theorem beL_w (M : xM) (a b : Nat) (hb : b + 1 ≠ a) {i : Nat} (h : i < 12) : mI (tX2_beLike M a b) (a + 1) i = mI M (b + 1) i := by
  unfold tX2_beLike
  show mI (cpI _ _ _ _ _ _) (a + 1) i = _
  rw [mI_cpI_c _ _ _ h, mI_stI_c _ _ _ hb, mI_stI_c _ _ _ hb]
theorem beL_v (M : xM) (a b : Nat) {i : Nat} (h : i < 12) : mL (tX2_beLike M a b) (a + 2) i = mL M (b + 2) i := by
  unfold tX2_beLike
  rw [mL_cpL_c _ _ _ h]
  rfl
theorem copM_4 (M : xM) (t u z : Nat) {i : Nat} (h : i < z) : mI (copM M t u z) 4 (12 * u + i) = mI M 4 (12 * t + i) := by
  unfold copM
  rw [mI_flL, mI_flI_at _ h]
theorem copM_5 (M : xM) (t u z : Nat) {i : Nat} (h : i < z) : mL (copM M t u z) 5 (12 * u + i) = mL M 5 (12 * t + i) := by
  unfold copM
  rw [mL_flL_at _ h]
theorem copM_4o (M : xM) (t : Nat) {u v z i : Nat} (h : v ≠ u) (hi : i < 12) (hz : z ≤ 12) : mI (copM M t u z) 4 (12 * v + i) = mI M 4 (12 * v + i) := by
  unfold copM
  rw [mI_flL, mI_flI_oy _ (by omega)]
theorem copM_5o (M : xM) (t : Nat) {u v z i : Nat} (h : v ≠ u) (hi : i < 12) (hz : z ≤ 12) : mL (copM M t u z) 5 (12 * v + i) = mL M 5 (12 * v + i) := by
  unfold copM
  rw [mL_flL_oy _ (by omega), mL_flI]
theorem Rel_copy {MC MR : xM} (hR : Rel MC MR) {κ ζ : Nat → Nat} (hS : ∀ t, t < 12 → RelT MC MR κ ζ t) {t u : Nat} (ht : t < 12) (he : κ u = 16) (hk : κ t < 14) : Rel (tX2_beLike MC (54 + 3 * u) (54 + 3 * t)) (copM (begM MR u (nI (κ t)) (nI (ζ t))) t u (ζ t)) := by
  have hne : t ≠ u := fun e => by subst e; omega
  obtain ⟨g1, g2, g3, g4, g5, g6, g7, g8, g9⟩ := hS t ht
  refine Rel_new (k := κ t) (z := ζ t) hR hS he ((sT_X2_beLike _ _ _).TC hR.1) (((sT_X6_begins _ _ _ _).tr (sT_X6_copies _ _ _ _)).TR hR.2.1) ((LenR_beg hR.2.2.1 u _ g2).k (copM_I _ _ _ _ (by decide))) (fun a h1 h2 h3 => ⟨beL_oI _ _ _ h1 h2, beL_oL _ _ _ h3⟩) (fun v hv => ⟨?_, ?_, ?_, fun i hi => ⟨?_, ?_⟩⟩) (fun a ha => ⟨?_, ?_⟩) ?_
  · rw [copM_I _ _ _ _ (by decide), begM_1, if_neg hv]
  · rw [copM_I _ _ _ _ (by decide), begM_2, if_neg hv]
  · rw [copM_L _ _ _ _ (by decide), begM_3o _ _ _ _ hv]
  · rw [copM_4o _ _ hv hi g2, begM_4o _ _ _ _ hv hi]
  · rw [copM_5o _ _ hv hi g2, begM_5o _ _ _ _ hv hi]
  · rw [copM_I _ _ _ _ (by omega), begM_oI _ _ _ _ ha]
  · rw [copM_L _ _ _ _ (by omega), begM_oL _ _ _ _ ha]
  · unfold RelT
    rw [updN_s, updN_s]
    refine ⟨g1, g2, ?_, ?_, ?_, fun _ => ?_, fun q => absurd q (by omega), fun q => absurd q (by omega), fun i hi => ?_⟩
    · rw [beL_0]; exact g3
    · rw [copM_I _ _ _ _ (by decide), begM_1, if_pos rfl, kdI_lt (by omega)]
    · rw [beL_1]; exact g5
    · rw [copM_I _ _ _ _ (by decide), begM_2, if_pos rfl]
    · rw [beL_w _ _ _ (by omega) (by omega), beL_v _ _ _ (by omega), copM_4 _ _ _ _ hi, copM_5 _ _ _ _ hi, begM_4o _ _ _ _ hne (by omega), begM_5o _ _ _ _ hne (by omega)]
      obtain ⟨q1, q2, w, q3, q4⟩ := g9 i hi
      exact ⟨q1, q2, w, q3, okC_upd q4 he⟩
theorem fc_copyOf : Fc_copyOf Rel := by
  intro a0 MC MR hR
  have hbt : ¬ bz true = 0 := by decide
  have hbf : bz false = 0 := rfl
  have n1 : ¬ (0 : Int32) ≤ -1 := by decide
  have z0 : (0 : Int32) ≤ 0 := by decide
  have key : sX5_copyOf MC a0 = sX6_copyOf MR a0 ∧ Rel (tX5_copyOf MC a0) (tX6_copyOf MR a0) := by
    have hl := Rel_low hR.2.2.2.1
    obtain ⟨κ, ζ, hS⟩ := hR.2.2.2.1
    have hfc := free_cases hS
    unfold sX5_copyOf tX5_copyOf sX6_copyOf tX6_copyOf
    rw [hl]
    rcases slot_cases a0 with ⟨s1, s2⟩ | ⟨t, ht, rfl, s1, s2⟩
    · have ep : sX5_arrayError MC a0 = -1 := by
        unfold sX5_arrayError sX5_slotError
        rw [s1]; rfl
      rw [ep, s2]
      simp only [if_pos hbf, if_neg (show ¬ (-1 : Int32) = 0 by decide)]
      exact ⟨by trivial, hR⟩
    · have hT := hS t ht
      rw [arrayE_of ht hT s1, refusal_of ht hT, s2]
      simp only [if_neg hbt]
      by_cases c : eA (κ t) = 0
      · have hk : κ t < 14 := by
          have := hT.1
          rcases eA_0 c with q | q <;> omega
        rw [c]
        simp only [↓reduceIte, if_pos z0]
        rcases hfc with e | ⟨u, hu, e, heu⟩
        · rw [e]
          simp only [if_neg n1]
          exact ⟨by trivial, hR⟩
        · rw [e]
          have hp : (0 : Int32) ≤ nI u := (kdI_dec u (by omega)).2.1
          simp only [if_pos hp]
          refine ⟨by trivial, ?_⟩
          have hz : ζ t ≤ 12 := hT.2.1
          rw [nI_clamp (show t < 2147483648 by omega), nI_clamp (show u < 2147483648 by omega), hT.2.2.2.1, hT.2.2.2.2.2.1 (by omega), kdI_lt (by omega), nI_clamp (show ζ t < 2147483648 by omega)]
          exact Rel_copy hR hS ht heu hk
      · have hn : ¬ 0 ≤ eA (κ t) := by
          rcases eA_neg (κ t) with q | q | q
          · exact absurd q c
          · rw [q]; decide
          · rw [q]; decide
        simp only [if_neg c, if_neg hn]
        exact ⟨by trivial, hR⟩
  exact fcI (sp_X5_copyOf (by decide) a0 hR.1) (sp_X6_copyOf (by decide) a0 hR.2.1 hR.2.2.1) key.1 key.2
