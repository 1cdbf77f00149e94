-- SUM: face
theorem k47_cases (x : Int32) : ((x < 4 ∨ (¬ x < 4 ∧ ¬ x ≤ 7)) ∧ sX6_isIn x.toInt64 4 7 = false) ∨ ∃ k, 4 ≤ k ∧ k < 8 ∧ x = nI k ∧ ¬ x < 4 ∧ x ≤ 7 ∧ sX6_isIn x.toInt64 4 7 = true := by
  unfold sX6_isIn
  have e0 : (x.toInt64 < 4) = (x < 4) := propext (i64_lt x 4)
  have e1 : (7 < x.toInt64) = (7 < x) := propext (i64_lt 7 x)
  simp only [e0, e1]
  by_cases c1 : x < 4
  · rw [if_pos c1]; exact Or.inl ⟨Or.inl c1, rfl⟩
  · rw [if_neg c1]
    by_cases c2 : 7 < x
    · rw [if_pos c2]; exact Or.inl ⟨Or.inr ⟨c1, Int32.not_le.mpr c2⟩, rfl⟩
    · rw [if_neg c2]
      have c0 : ¬ x < 0 := fun z => c1 (Int32.lt_iff_toInt_lt.mpr (by have := Int32.lt_iff_toInt_lt.mp z; have q1 : (0 : Int32).toInt = 0 := rfl; have q2 : (4 : Int32).toInt = 4 := rfl; omega))
      obtain ⟨e, b⟩ := nI_cl (le_vp 7 rfl (by decide) c0 c2)
      refine Or.inr ⟨x.toNatClampNeg, ?_, b, e, c1, Int32.not_lt.mp c2, rfl⟩
      rcases Nat.lt_or_ge x.toNatClampNeg 4 with z | z
      · exfalso
        rw [e] at c1
        exact c1 ((by decide : ∀ k, k < 4 → nI k < 4) _ z)
      · exact z
theorem rp_I (M : xM) (e w : Int32) {a : Nat} (h : a ≠ 0) : mI (tX5_report M e w) a = mI M a := by
  unfold tX5_report
  rw [mI_stI_c _ _ _ h, mI_stI_c _ _ _ h]
theorem fc_sum : Fc_sum Rel := by
  intro a0 a1 MC MR hR
  obtain ⟨κ, ζ, hS⟩ := hR.2.2.2.1
  rcases k47_cases a1 with ⟨n1, n2⟩ | ⟨k, k4, k8, rfl, n1, n2, n3⟩
  · refine fcL (sp_X5_sum_bad (by decide) a0 a1 hR.1 n1) (sp_X6_sum_bad (by decide) a0 a1 hR.2.1 ?_) rfl (Rel_tells hR _ _)
    cases h : sX6_isThing a0.toInt64 with
    | false => exact Or.inl rfl
    | true => exact Or.inr ⟨rfl, n2⟩
  · rcases slot_cases a0 with ⟨s1, s2⟩ | ⟨t, ht, rfl, s1, s2⟩
    · exact fcL (sp_X5_sum_e (by decide) a0 (nI k) (-1) hR.1 n1 n2 (prim_bad s1).1 (by decide)) (sp_X6_sum_bad (by decide) a0 (nI k) hR.2.1 (Or.inl s2)) rfl (Rel_tells hR _ _)
    · have hT := hS t ht
      have ep := prim_of ht hT s1
      have er := refusal_of ht hT
      rw [nIL (by omega)] at s2 n3
      by_cases c : eA (κ t) = 0
      · have hk14 : κ t < 14 := by have := hT.1; rcases eA_0 c with q | q <;> omega
        have hpl := plain_of ht hk14 hT.2.2.2.1
        rw [if_pos c] at ep
        rw [c] at er
        by_cases q : κ t < 8
        · rw [if_pos q] at ep
          rw [decide_eq_true q] at hpl
          have hc := cells_of hT
          have hz := hT.2.1
          have hzC := hT.2.2.2.2.1
          have hzR := hT.2.2.2.2.2.1 (by omega)
          have tC : mI MC (54 + 3 * t) 0 = nI (κ t) := by rw [hT.2.2.1, kdI_lt (by omega)]
          have tR : mI MR 1 t = nI (κ t) := by rw [hT.2.2.2.1, kdI_lt (by omega)]
          have hww := wt_eq _ q _ k8
          have hgo : (ζ t = 0 ∨ (0 < ζ t ∧ sX6_turns (nI (κ t)) (nI k) = true)) ∨ (0 < ζ t ∧ sX6_turns (nI (κ t)) (nI k) = false) := by
            rcases Nat.eq_zero_or_pos (ζ t) with z | z
            · exact Or.inl (Or.inl z)
            · cases g : sX6_turns (nI (κ t)) (nI k) with
              | true => exact Or.inl (Or.inr ⟨z, rfl⟩)
              | false => exact Or.inr ⟨z, rfl⟩
          rcases hgo with hgo | ⟨z0, zf⟩
          · have hgoC : ζ t = 0 ∨ (0 < ζ t ∧ sX0_widens (nI (κ t)) (nI k) = true) := by rw [hww]; exact hgo
            have hF : (k = 6 ∨ k = 7) → ∀ i, i < ζ t → okF k (wid (κ t) k (mL MR 5 (12 * t + i))) := fun hk i hi => by
              rcases hgo with z | ⟨-, z⟩
              · omega
              · have ho := (hc i hi).2.2.2
                have hwk := ho.2.1 q
                have hN := ho.V.2.1 (by omega)
                rw [hwk] at hN
                exact (okN_wid q k8 z hN).2 hk
            have h6 : ∀ i, i < ζ t → κ t = 6 → okF 6 (mL MR 5 (12 * t + i)) := fun i hi z => f6_of hT hi z
            have hRow := (sT_X5_report MC 0 (-1)).row (hR.1.row ht)
            have zC : mI (tX5_report MC 0 (-1)) (54 + 3 * t) 1 = nI (ζ t) := by rw [rp_I _ _ _ (by omega)]; exact hzC
            have kC : mI (tX5_report MC 0 (-1)) (54 + 3 * t) 0 = nI (κ t) := by rw [rp_I _ _ _ (by omega)]; exact tC
            have vC : ∀ i, i < ζ t → mL (tX5_report MC 0 (-1)) (54 + 3 * t + 2) i = mL MR 5 (12 * t + i) := fun i hi => (hc i hi).2.2.1
            have hTR := (sT_X6_tells MR 0 (-1)).TR hR.2.1
            have zR : mI (tX6_tells MR 0 (-1)) 2 t = nI (ζ t) := by rw [te_I _ _ _ (by decide)]; exact hzR
            have kR : mI (tX6_tells MR 0 (-1)) 1 t = nI (κ t) := by rw [te_I _ _ _ (by decide)]; exact tR
            have vR : ∀ i, i < ζ t → mL (tX6_tells MR 0 (-1)) 5 (12 * t + i) = mL MR 5 (12 * t + i) := fun i hi => rfl
            have h4 : k = 4 ∨ k = 5 ∨ k = 6 ∨ k = 7 := by omega
            rcases h4 with rfl | rfl | rfl | rfl
            · exact fcL (sp_X5_sum_w (by decide) hR.1 ht hzC hz tC q ep 4 (by decide) (by decide) (by decide) hgoC (sp_ws4 (d := 199) (V := fun i => mL MR 5 (12 * t + i)) (by decide) hRow zC hz kC q vC)) (sp_X6_sum_go (by decide) 4 hR.2.1 ht (by decide) s2 n3 er hpl (ζ t) (κ t) hzR hz tR hgo (sp_ad4 (d := 199) (V := fun i => mL MR 5 (12 * t + i)) (by decide) hTR ht zR hz kR q vR h6)) rfl (Rel_tells hR _ _)
            · exact fcL (sp_X5_sum_w (by decide) hR.1 ht hzC hz tC q ep 5 (by decide) (by decide) (by decide) hgoC (sp_ws5 (d := 199) (V := fun i => mL MR 5 (12 * t + i)) (by decide) hRow zC hz kC q vC)) (sp_X6_sum_go (by decide) 5 hR.2.1 ht (by decide) s2 n3 er hpl (ζ t) (κ t) hzR hz tR hgo (sp_ad5 (d := 199) (V := fun i => mL MR 5 (12 * t + i)) (by decide) hTR ht zR hz kR q vR h6)) rfl (Rel_tells hR _ _)
            · exact fcL (sp_X5_sum_f (by decide) hR.1 ht hzC hz tC q ep 6 (by decide) (by decide) rfl hgoC (sp_fs6 (d := 199) (V := fun i => mL MR 5 (12 * t + i)) (by decide) hRow zC hz kC q vC h6 (hF (Or.inl rfl)))) (sp_X6_sum_go (by decide) 6 hR.2.1 ht (by decide) s2 n3 er hpl (ζ t) (κ t) hzR hz tR hgo (sp_ad6 (d := 199) (V := fun i => mL MR 5 (12 * t + i)) (by decide) hTR ht zR hz kR q vR h6 (hF (Or.inl rfl)))) rfl (Rel_tells hR _ _)
            · exact fcL (sp_X5_sum_d (by decide) hR.1 ht hzC hz tC q ep 7 (by decide) (by decide) rfl hgoC (sp_fs7 (d := 199) (V := fun i => mL MR 5 (12 * t + i)) (by decide) hRow zC hz kC q vC h6 (hF (Or.inr rfl)))) (sp_X6_sum_go (by decide) 7 hR.2.1 ht (by decide) s2 n3 er hpl (ζ t) (κ t) hzR hz tR hgo (sp_ad7 (d := 199) (V := fun i => mL MR 5 (12 * t + i)) (by decide) hTR ht zR hz kR q vR h6 (hF (Or.inr rfl)))) rfl (Rel_tells hR _ _)
          · exact fcL (sp_X5_sum_k (by decide) hR.1 ht hzC hz tC q ep k k4 k8 z0 (hww.trans zf)) (sp_X6_sum_k (by decide) k hR.2.1 ht k8 s2 n3 er hpl (ζ t) (κ t) hzR hz tR z0 zf) rfl (Rel_tells hR _ _)
        · rw [if_neg q] at ep
          rw [decide_eq_false q] at hpl
          exact fcL (sp_X5_sum_e (by decide) (nI t) (nI k) (-7) hR.1 n1 n2 ep (by decide)) (sp_X6_sum_o (by decide) k hR.2.1 ht k8 s2 n3 er hpl) rfl (Rel_tells hR _ _)
      · rw [if_neg c] at ep
        exact fcL (sp_X5_sum_e (by decide) (nI t) (nI k) _ hR.1 n1 n2 ep c) (sp_X6_sum_e (by decide) k hR.2.1 ht k8 s2 n3 _ er (eA_lt c)) rfl (Rel_tells hR _ _)
