-- FIND: the face
theorem fc_find : Fc_find Rel := by
  intro a0 MC MR hR
  rcases slot_cases a0 with ⟨s1, s2⟩ | ⟨t, ht, rfl, s1, s2⟩
  · exact fcI (sp_X5_find_e (d := 200) (by decide) a0 hR.1 (by rw [slotBad s1]; decide)) (sp_X6_find_b (d := 200) (by decide) a0 hR.2.1 s2) (slotBad s1) hR
  · obtain ⟨κ, ζ, hS⟩ := hR.2.2.2.1
    have hr := hS t ht
    have e0 := slotE_of ht hr s1
    rw [nIL (by omega)] at s2
    by_cases c : κ t = 16
    · have e1 : sX5_slotError MC (nI t) = -5 := by rw [e0, c]; rfl
      exact fcI (sp_X5_find_e (d := 200) (by decide) _ hR.1 (by rw [e1]; decide)) (sp_X6_find_e (d := 200) (by decide) t hR.2.1 ht s2 (by rw [hr.2.2.2.1, c]; rfl)) e1 hR
    · have hk : κ t < 16 := by have := hr.1; omega
      have e1 : sX5_slotError MC (nI t) = 0 := by rw [e0]; exact if_neg c
      obtain ⟨L, p, l1, l2, l3, l4, l5, l6, -⟩ := RelB_len hR
      obtain ⟨-, s4, s3⟩ := tp_S hR l4 l1
      have hB : ∀ i, i < L → mI MC 3 i = nI (tpB MR i) ∧ tpB MR i < 256 := fun i hi => by
        have := (s4 0).2.2.2.2.2.2.2 i hi
        rw [itM_I MC (by decide)] at this
        exact this
      have hw := sp_write (d := 199) (m := 0) (by decide) (WrR_of hR hS (Or.inl ⟨rfl, rfl⟩)) (by decide) ht hk (sl_15' hr)
      have hlen := itR_len (m := 0) (sl_lk hS) ht
      have hla := sp_laS (d := 199) (m := 0) (by decide) hR hS (by decide) ht hk
      generalize itR 0 κ ζ (slW MR) (slV MR κ) t = it at hw hlen hla
      have hRC := Rel_wrC (m := 0) hR (Or.inl ⟨rfl, rfl⟩) it.2 it.1
      have eI : ∀ x, x = 2 ∨ x = 3 → mI (emM (nuM (wrM MC 46 4 0) 46 it.2) 4 1 (4 + 1) it.1) x = mI MC x := fun x hx => wr_I MC _ _ (by omega) (by omega) (by omega) (by omega)
      have hH : ∀ C, (∃ A, (∃ R, LR MR 0 it.2 [] R ∧ A = emM R 0 13 8 it.1) ∧ C = hoM A it.1.length) → Rel (emM (nuM (wrM MC 46 4 0) 46 it.2) 4 1 (4 + 1) it.1) C ∧ mI C 0 15 = nI it.1.length ∧ (∀ i, i < it.1.length → mI C 9 i = it.1.getD i 0) ∧ mI C 6 = mI MR 6 ∧ mI C 0 6 = nI L := by
        rintro C ⟨A, ⟨R, hL, rfl⟩, rfl⟩
        have q := (Rel_laR hRC hL it.1).1
        have z := Rel_scr (MR' := hoM (emM R 0 13 8 it.1) it.1.length) q (sT_hoM _ _) (fun a a1 a2 => hoM_I _ _ (by omega) (by omega)) (fun a _ => rfl) (fun k _ _ => hoM_0 _ _ (by omega))
        refine ⟨z.1, hoM_f _ _, fun i hi => (hoM_9 _ hi).trans (emM_c _ _ hi (by decide)), ?_, ?_⟩
        · rw [hoM_I _ _ (by decide) (by decide), emM_I _ _ (by decide) (by decide)]
          exact hL.2.2.1 6 (by decide) (by decide) (by decide) (by decide) (by decide) (by decide)
        · rw [hoM_0 _ _ (by decide), emM_a _ _ (by decide) (by decide), hL.2.2.2.1 6 (by decide) (by decide) (by decide)]
          exact l4
      refine fcX2 (sp_X5_find_k (d := 200) (B := tpB MR) (L := L) (l := it.1) (by decide) l1 (by rw [eI 2 (Or.inl rfl)]; exact l3) (fun i hi => by rw [eI 3 (Or.inr rfl)]; exact hB i hi) (emM_f _ _ _ _ _) (fun i hi => emM_c _ _ hi (by decide)) hlen hR.1 e1 hw hRC.1) (sp_X6_find_k (d := 200) (k := κ t) (B := tpB MR) (L := L) (l := it.1) (P := fun A => ∃ R, LR MR 0 it.2 [] R ∧ A = emM R 0 13 8 it.1) (Q := fun C => ∃ A, (∃ R, LR MR 0 it.2 [] R ∧ A = emM R 0 13 8 it.1) ∧ C = hoM A it.1.length) (by decide) hR.2.1 ht s2 (by rw [hr.2.2.2.1, kdI_lt hk]) hk l1 hla ?_ ?_ (fun C hC => ⟨(hH C hC).1.2.1, (hH C hC).2.2.2.2⟩) ?_ hlen) rfl ?_
      · rintro A ⟨R, hL, rfl⟩
        exact (Rel_laR hR hL it.1).1.2.1
      · rintro A ⟨R, hL, rfl⟩
        exact (sp_ho (Rel_laR hR hL it.1).1.2.1 (emM_f _ _ _ _ _) (by omega)).weaken (fun r M' h => ⟨h.1, _, ⟨R, hL, rfl⟩, h.2⟩)
      · intro C hC
        obtain ⟨q1, q2, q3, q4, q5⟩ := hH C hC
        have z := (tp_S q1 q5 l1).1
        rw [show tpB C = tpB MR from funext fun i => by unfold tpB; rw [q4]] at z
        exact ⟨z, q1.2.2.1.k (ftM_I C L (by decide) (by decide)), by rw [ftM_0 C L (by decide)]; exact q5, by rw [ftM_0 C L (by decide)]; exact q2, fun i hi => by rw [ftM_I C L (by decide) (by decide)]; exact q3 i hi⟩
      · rintro A D hA ⟨C, hC, hD⟩
        exact Rel_FC (Rel_FR (Rel_ft (hH C hC).1 L).1 hD) hA
