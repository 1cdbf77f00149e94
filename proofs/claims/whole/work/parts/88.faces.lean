-- FACES: the tape's places
theorem le_cases {x : Int32} {n : Nat} (hn : n < 100000) (h1 : ¬ x < 0) (h2 : x ≤ nI n) : ∃ p, p ≤ n ∧ x = nI p := by
  have g1 : ¬ x.toInt < (0 : Int) := fun z => h1 (Int32.lt_iff_toInt_lt.mpr z)
  have g2 := Int32.le_iff_toInt_le.mp h2
  rw [nI_toInt (by omega)] at g2
  have hv : vp_in x (n + 1) := by rw [vp_in_iff]; omega
  obtain ⟨q1, q2⟩ := nI_cl hv
  exact ⟨_, by omega, q1⟩
theorem nI_injI {a b : Nat} (ha : a < 100000) (hb : b < 100000) (h : nI a = nI b) : a = b := by
  have := congrArg Int32.toInt h
  rw [nI_toInt (by omega), nI_toInt (by omega)] at this
  omega
theorem fc_seek : Fc_seek Rel := by
  intro a0 MC MR hR
  refine fcI (sp_X5_seek (by decide) a0 hR.1) (sp_X6_seek (by decide) a0 hR.2.1) ?_ ?_
  · obtain ⟨-, -, -, -, ⟨len, pos, b1, b2, b3, b4, b5, b6, b7⟩, -⟩ := hR
    unfold sX5_seek sX6_seek
    rw [b3, b4, b5, b6]
  · have hR0 := hR
    obtain ⟨h1, h2, h3, h4, ⟨len, pos, b1, b2, b3, b4, b5, b6, b7⟩, ⟨⟨m, hm, m1, m2⟩, o1, o2, o3, o4⟩⟩ := hR
    unfold tX5_seek tX6_seek
    rw [b3, b4]
    by_cases c1 : a0 < 0
    · rw [if_pos c1, if_pos c1]; exact hR0
    · rw [if_neg c1, if_neg c1]
      by_cases c2 : a0 ≤ nI len
      · rw [if_pos c2, if_pos c2]
        obtain ⟨p, hp, rfl⟩ := le_cases (by omega) c1 c2
        refine ⟨(sT.I MC 0 10 _).TC h1, (sT.I MR 0 7 _).TR h2, h3.k (mI_stI_c _ _ _ (by decide)), h4.st0 _ _ _ _, ⟨len, p, b1, hp, ?_, ?_, mI_stI_v _ _ _ _, mI_stI_v _ _ _ _, ?_⟩, ⟨m, hm, ?_, ?_⟩, ?_, ?_, ?_, ?_⟩
        · rw [mI_stI_c _ _ _ (by decide)]; exact b3
        · rw [mI_stI_o _ _ _ _ (by decide)]; exact b4
        · intro i hi
          rw [mI_stI_c _ _ _ (by decide), mI_stI_c _ _ _ (by decide)]
          exact b7 i hi
        · rw [mI_stI_o _ _ _ _ (by decide)]; exact m1
        · rw [mI_stI_o _ _ _ _ (by decide)]; exact m2
        · rw [mI_stI_o _ _ _ _ (by decide), mI_stI_o _ _ _ _ (by decide)]; exact o1
        · rw [mI_stI_o _ _ _ _ (by decide), mI_stI_o _ _ _ _ (by decide)]; exact o2
        · intro k hk
          rw [mI_stI_c _ _ _ (by decide), mI_stI_c _ _ _ (by decide)]; exact o3 k hk
        · intro k hk
          rw [mL_stI_c]; exact o4 k hk
      · rw [if_neg c2, if_neg c2]; exact hR0
theorem fc_cut : Fc_cut Rel := by
  intro a0 MC MR hR
  refine fcI (sp_X5_cut (by decide) a0 hR.1) (sp_X6_cut (by decide) a0 hR.2.1) ?_ ?_
  · obtain ⟨-, -, -, -, ⟨len, pos, b1, b2, b3, b4, b5, b6, b7⟩, -⟩ := hR
    unfold sX5_cut sX6_cut
    rw [b3, b4]
    simp only [ite_self]
  · have hR0 := hR
    obtain ⟨h1, h2, h3, h4, ⟨len, pos, b1, b2, b3, b4, b5, b6, b7⟩, ⟨⟨m, hm, m1, m2⟩, o1, o2, o3, o4⟩⟩ := hR
    unfold tX5_cut tX6_cut
    rw [b3, b4]
    by_cases c1 : a0 < 0
    · rw [if_pos c1, if_pos c1]; exact hR0
    · rw [if_neg c1, if_neg c1]
      by_cases c2 : a0 ≤ nI len
      · rw [if_pos c2, if_pos c2]
        obtain ⟨p, hp, rfl⟩ := le_cases (by omega) c1 c2
        rw [mI_stI_c MC _ _ (show (0 : Nat) ≠ 2 by decide), mI_stI_o MR 0 0 (nI p) (show (7 : Nat) ≠ 6 by decide), b5, b6]
        have eR : (if nI pos ≤ nI p then stI (stI MR 0 6 (nI p)) 0 7 (nI pos) else stI (stI MR 0 6 (nI p)) 0 7 (nI p)) = stI (stI MR 0 6 (nI p)) 0 7 (nI (min p pos)) := by
          by_cases c : pos ≤ p
          · rw [if_pos ((nI_leI (by omega) (by omega)).mpr c), Nat.min_eq_right c]
          · rw [if_neg (fun z => c ((nI_leI (by omega) (by omega)).mp z)), Nat.min_eq_left (by omega)]
        have eC : (if nI p < nI pos then nI p else nI pos) = nI (min p pos) := by
          by_cases c : p < pos
          · rw [if_pos ((nI_ltI (by omega) (by omega)).mpr c), Nat.min_eq_left (by omega)]
          · rw [if_neg (fun z => c ((nI_ltI (by omega) (by omega)).mp z)), Nat.min_eq_right (by omega)]
        rw [eR, eC]
        have hmin : min p pos ≤ p := Nat.min_le_left _ _
        generalize min p pos = q at hmin
        refine ⟨((sT.I MC 2 1 _).tr (sT.I _ 0 10 _)).TC h1, ((sT.I MR 0 6 _).tr (sT.I _ 0 7 _)).TR h2, h3.k ?_, ?_, ⟨p, q, by omega, hmin, ?_, ?_, mI_stI_v _ _ _ _, mI_stI_v _ _ _ _, ?_⟩, ⟨m, hm, ?_, ?_⟩, ?_, ?_, ?_, ?_⟩
        · rw [mI_stI_c _ _ _ (by decide), mI_stI_c _ _ _ (by decide)]
        · refine h4.k (fun a ha => ⟨?_, rfl⟩) (fun a g1 g2 => ⟨?_, rfl⟩)
          · rw [mI_stI_c _ _ _ (by omega), mI_stI_c _ _ _ (by omega)]
          · rw [mI_stI_c _ _ _ (by omega), mI_stI_c _ _ _ (by omega)]
        · rw [mI_stI_c _ _ _ (by decide), mI_stI_v]
        · rw [mI_stI_o _ _ _ _ (by decide), mI_stI_v]
        · intro i hi
          rw [mI_stI_c _ _ _ (by decide), mI_stI_c _ _ _ (by decide), mI_stI_c _ _ _ (by decide), mI_stI_c _ _ _ (by decide)]
          exact b7 i (by omega)
        · rw [mI_stI_o _ _ _ _ (by decide), mI_stI_c _ _ _ (by decide)]; exact m1
        · rw [mI_stI_o _ _ _ _ (by decide), mI_stI_o _ _ _ _ (by decide)]; exact m2
        · rw [mI_stI_o _ _ _ _ (by decide), mI_stI_c _ _ _ (by decide), mI_stI_o _ _ _ _ (by decide), mI_stI_o _ _ _ _ (by decide)]; exact o1
        · rw [mI_stI_o _ _ _ _ (by decide), mI_stI_c _ _ _ (by decide), mI_stI_o _ _ _ _ (by decide), mI_stI_o _ _ _ _ (by decide)]; exact o2
        · intro k hk
          rw [mI_stI_c _ _ _ (by decide), mI_stI_c _ _ _ (by decide), mI_stI_c _ _ _ (by decide), mI_stI_c _ _ _ (by decide)]; exact o3 k hk
        · intro k hk
          rw [mL_stI_c, mL_stI_c]; exact o4 k hk
      · rw [if_neg c2, if_neg c2]; exact hR0
