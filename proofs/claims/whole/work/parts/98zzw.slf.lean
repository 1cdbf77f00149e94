-- SLACK: the face
theorem fc_slack : Fc_slack Rel := by
  intro a0 MC MR hR
  obtain ⟨L, p, l1, l2, l3, l4, l5, l6, -⟩ := RelB_len hR
  by_cases c1 : a0 < 0
  · exact fcI (sp_X5_slack_b (d := 200) (by decide) a0 hR.1 (by unfold sX3_has; rw [if_pos c1])) (sp_X6_slack_b1 (d := 200) (by decide) a0 hR.2.1 c1) rfl hR
  · by_cases c2 : nI L ≤ a0
    · exact fcI (sp_X5_slack_b (d := 200) (by decide) a0 hR.1 (by unfold sX3_has; rw [if_neg c1, l3, if_pos c2])) (sp_X6_slack_b2 (d := 200) (by decide) a0 hR.2.1 c1 (by rw [l4]; exact c2)) rfl hR
    · have hv : vp_in a0 L := by
        rw [vp_in_iff]
        have g1 : ¬ a0.toInt < (0 : Int) := fun z => c1 (Int32.lt_iff_toInt_lt.mpr z)
        have g2 : ¬ (nI L).toInt ≤ a0.toInt := fun z => c2 (Int32.le_iff_toInt_le.mpr z)
        rw [nI_toInt (by omega)] at g2
        omega
      obtain ⟨q1, q2⟩ := nI_cl hv
      generalize a0.toNatClampNeg = i at q1 q2
      subst q1
      obtain ⟨s1, s2, s3⟩ := tp_S hR l4 l1
      have hB : ∀ j, j < L → mI MC 3 j = nI (tpB MR j) ∧ tpB MR j < 256 := fun j hj => by
        have := (s2 0).2.2.2.2.2.2.2 j hj
        rw [itM_I MC (by decide)] at this
        exact this
      have hr := sp_X6_slack_k (d := 200) (by decide) hR.2.1 l4 l1 q2 l2 l6 s1 (hR.2.2.1.k (ftM_I MR L (by decide) (by decide)))
      have hh := has_k l3 l1 q2
      have hti := sp_ti (d := 199) (by decide) hR.1 (s2 p) l2
      have hcf : ∀ A, CF (itM MC 2 p) A → TC A ∧ mI A 0 10 = nI p ∧ mI A 2 1 = nI L ∧ ∀ j, j < L → mI A 3 j = nI (tpB MR j) ∧ tpB MR j < 256 := fun A h => by
        obtain ⟨r1, r2⟩ := rd_C hR (Or.inl rfl) h
        refine ⟨r1, ?_, ?_, fun j hj => ?_⟩
        · rw [r2 0 (by decide)]; exact l5
        · rw [r2 2 (by decide)]; exact l3
        · rw [r2 3 (by decide)]; exact hB j hj
      have hrl : ∀ A D, CF (itM MC 2 p) A → SRr (ftM MR L) i D → Rel A D := fun A D hA hD => hD.rel (Rel_ft (Rel_rdC hR (Or.inl rfl) hA).1 L).1
      cases e : pItem (tpB MR) L p with
      | error f =>
        rw [e] at hti
        have hf := pItem_e e l2
        have far : (i < p ∨ f + 10 ≤ i) → (0 : Int32) = nI (cnt (sHit (tpB MR) L p i) 256 0 0) := fun h => by
          rw [cnt_non 256 0 0 (fun b _ _ => sHit_e ((sHit_far s3 (by rw [e]; exact h) b).trans e))]
          rfl
        by_cases hip : i < p
        · exact fcX2 (sp_X5_slack_n0 (d := 200) (P := fun A => CF (itM MC 2 p) A ∧ mI A 8 3 = nI f) (by decide) hR.1 hh l5 (by omega) (by omega) hti (fun A h => ⟨(hcf A h.1).1, (hcf A h.1).2.1⟩) hip) hr (far (Or.inl hip)) (fun A D hA hD => hrl A D hA.1 hD)
        · have hml : ∀ A, CF (itM MC 2 p) A ∧ mI A 8 3 = nI f → Sp (fX1_mayHaveLookedAt 199) [.ref 8, .int (nI i)] A (dt (some (.int (bz (decide (i < f + 10))))) A) := fun A h => sp_ml_e (hcf A h.1).1 (by omega) (by omega) h.2
          by_cases hq : i < f + 10
          · rw [decide_eq_true hq] at hml
            refine fcX2 (sp_X5_slack_l (d := 200) (B := tpB MR) (L := L) (P := fun A => CF (itM MC 2 p) A ∧ mI A 8 3 = nI f) (by decide) hR.1 hh l5 l1 q2 l2 hti (fun A h => ⟨(hcf A h.1).1, (hcf A h.1).2.1⟩) hip hml (fun A h => (hcf A h.1).2.2.1) (fun A h => (hcf A h.1).2.2.2)) hr rfl ?_
            rintro C D ⟨A, hA, C1, hC, rfl⟩ hD
            exact SCl.rel (hrl A D hA.1 hD) hC
          · rw [decide_eq_false hq] at hml
            exact fcX2 (sp_X5_slack_m0 (d := 200) (P := fun A => CF (itM MC 2 p) A ∧ mI A 8 3 = nI f) (by decide) hR.1 hh l5 (by omega) (by omega) hti (fun A h => ⟨(hcf A h.1).1, (hcf A h.1).2.1⟩) hip hml) hr (far (Or.inr (by omega))) (fun A D hA hD => hrl A D hA.1 hD)
      | ok pr =>
        rw [e] at hti
        obtain ⟨-, hq'⟩ := pItem_ok s3 e
        have far : (i < p ∨ pr.1 ≤ i) → (256 : Int32) = nI (cnt (sHit (tpB MR) L p i) 256 0 0) := fun h => by
          rw [cnt_all 256 0 0 (fun b _ _ => sHit_k ((sHit_far s3 (by rw [e]; exact h) b).trans e))]
          rfl
        by_cases hip : i < p
        · exact fcX2 (sp_X5_slack_n1 (d := 200) (P := fun A => CS (itM MC 2 p) pr.1 pr.2 A) (by decide) hR.1 hh l5 (by omega) (by omega) hti (fun A h => ⟨(hcf A h.1).1, (hcf A h.1).2.1⟩) hip) hr (far (Or.inl hip)) (fun A D hA hD => hrl A D hA.1 hD)
        · have hml : ∀ A, CS (itM MC 2 p) pr.1 pr.2 A → Sp (fX1_mayHaveLookedAt 199) [.ref 8, .int (nI i)] A (dt (some (.int (bz (decide (i < pr.1))))) A) := fun A h => sp_ml_k (hcf A h.1).1 (by omega) (by omega) h.2.2.2.1 h.2.2.1
          by_cases hq : i < pr.1
          · rw [decide_eq_true hq] at hml
            refine fcX2 (sp_X5_slack_l (d := 200) (B := tpB MR) (L := L) (P := fun A => CS (itM MC 2 p) pr.1 pr.2 A) (by decide) hR.1 hh l5 l1 q2 l2 hti (fun A h => ⟨(hcf A h.1).1, (hcf A h.1).2.1⟩) hip hml (fun A h => (hcf A h.1).2.2.1) (fun A h => (hcf A h.1).2.2.2)) hr rfl ?_
            rintro C D ⟨A, hA, C1, hC, rfl⟩ hD
            exact SCl.rel (hrl A D hA.1 hD) hC
          · rw [decide_eq_false hq] at hml
            exact fcX2 (sp_X5_slack_m1 (d := 200) (P := fun A => CS (itM MC 2 p) pr.1 pr.2 A) (by decide) hR.1 hh l5 (by omega) (by omega) hti (fun A h => ⟨(hcf A h.1).1, (hcf A h.1).2.1⟩) hip hml) hr (far (Or.inr (by omega))) (fun A D hA hD => hrl A D hA.1 hD)
