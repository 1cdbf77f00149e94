-- TWIN: the face
theorem fc_twin : Fc_twin Rel := by
  intro a0 MC MR hR
  rcases slot_cases a0 with ⟨s1, s2⟩ | ⟨t, ht, rfl, s1, s2⟩
  · exact fcI (sp_X5_twin_e (d := 200) (by decide) a0 hR.1 (by rw [slotBad s1]; decide)) (sp_X6_twin_b (d := 200) (by decide) a0 hR.2.1 s2) (slotBad s1) hR
  · obtain ⟨κ, ζ, hS⟩ := hR.2.2.2.1
    have hr := hS t ht
    have e0 := slotE_of ht hr s1
    rw [nIL (by omega)] at s2
    by_cases c : κ t = 16
    · have e1 : sX5_slotError MC (nI t) = -5 := by rw [e0, c]; rfl
      exact fcI (sp_X5_twin_e (d := 200) (by decide) _ hR.1 (by rw [e1]; decide)) (sp_X6_twin_e (d := 200) (by decide) t hR.2.1 ht s2 (by rw [hr.2.2.2.1, c]; rfl)) e1 hR
    · have hk : κ t < 16 := by have := hr.1; omega
      have k1 : mI MR 1 t = nI (κ t) := by rw [hr.2.2.2.1, kdI_lt hk]
      have e1 : sX5_slotError MC (nI t) = 0 := by rw [e0]; exact if_neg c
      have hw := sp_write (d := 199) (m := 0) (by decide) (WrR_of hR hS (Or.inl ⟨rfl, rfl⟩)) (by decide) ht hk (sl_15' hr)
      have hlen := itR_len (m := 0) (sl_lk hS) ht
      have hb := sl_b (m := 0) hS (by decide) ht hk
      have hla := sp_laS (d := 199) (m := 0) (by decide) hR hS (by decide) ht hk
      have hc12 := fiN_12 κ
      -- what the class reads back
      have key : ∀ B : Nat → Nat, (∀ i, i < (itR 0 κ ζ (slW MR) (slV MR κ) t).1.length → B i < 256) → atB B (itR 0 κ ζ (slW MR) (slV MR κ) t).1.length 0 (itR 0 κ ζ (slW MR) (slV MR κ) t).1 → ∃ R, pItem B (itR 0 κ ζ (slW MR) (slV MR κ) t).1.length 0 = .ok ((itR 0 κ ζ (slW MR) (slV MR κ) t).1.length, R) ∧ (κ t < 14 → Img κ ζ (itR 0 κ ζ (slW MR) (slV MR κ) t).2 R ∧ ∀ i, i < (itR 0 κ ζ (slW MR) (slV MR κ) t).2.length → cmR ζ (slW MR) (slV MR κ) (itR 0 κ ζ (slW MR) (slV MR κ) t).2 R i ((itR 0 κ ζ (slW MR) (slV MR κ) t).2.getD i 0)) ∧ (¬ κ t < 14 → R = rThg (κ t) (mL MR 3 t)) := by
        intro B hB hat
        by_cases hk14 : κ t < 14
        · have ei : itR 0 κ ζ (slW MR) (slV MR κ) t = wA 0 κ ζ (slW MR) (slV MR κ) 12 t [] := if_pos hk14
          rw [ei] at hB hat ⊢
          obtain ⟨R, q1, q2, q3⟩ := rt_item hB (sl_lk hS) (fun t' ht' hk' j hj => by
            have ev : slV MR κ t' j = mL MR 5 (12 * t' + j) := if_neg (by omega)
            rw [ev]
            exact (cells_of (hS t' ht') j hj).2.2.2) ht hk14 hat
          exact ⟨R, q1, fun _ => ⟨q2, q3⟩, fun z => absurd hk14 z⟩
        · have ei : itR 0 κ ζ (slW MR) (slV MR κ) t = (elB (if κ t = 15 then 8 else 9) (slV MR κ t 0), []) := if_neg hk14
          have ev : slV MR κ t 0 = mL MR 3 t := if_pos (by omega)
          rw [ei] at hB hat ⊢
          rw [ev] at hB hat ⊢
          exact ⟨rThg (κ t) (mL MR 3 t), rt_thing hB (by omega) (hr.2.2.2.2.2.2.2.1 (by omega) hk).2 hat, fun z => absurd z hk14, fun _ => rfl⟩
      have hms : κ t < 14 → msOk (itR 0 κ ζ (slW MR) (slV MR κ) t).2 ∧ ∀ x, x ∈ (itR 0 κ ζ (slW MR) (slV MR κ) t).2 → x < 12 := fun z => by
        have ei : itR 0 κ ζ (slW MR) (slV MR κ) t = wA 0 κ ζ (slW MR) (slV MR κ) 12 t [] := if_pos z
        rw [ei]
        have := (wA_inv (m := 0) (sl_lk hS) 12 t [] ht z ms_nil).1
        exact ⟨this, this.2⟩
      generalize hit : itR 0 κ ζ (slW MR) (slV MR κ) t = it at hw hlen hb hla key hms
      have hRC := Rel_wrC (m := 0) hR (Or.inl ⟨rfl, rfl⟩) it.2 it.1
      have hSC : ∀ t', t' < 12 → RelT (emM (nuM (wrM MC 46 4 0) 46 it.2) 4 1 (4 + 1) it.1) MR κ ζ t' := by
        intro t' ht'
        have q := hS t' ht'
        unfold RelT at q ⊢
        rw [wr_I MC _ _ (show 54 + 3 * t' ≠ 4 by omega) (by omega) (by omega) (by omega), wr_I MC _ _ (show 54 + 3 * t' + 1 ≠ 4 by omega) (by omega) (by omega) (by omega)]
        exact q
      generalize hM1 : emM (nuM (wrM MC 46 4 0) 46 it.2) 4 1 (4 + 1) it.1 = M1 at hw hRC hSC
      have hbt : ∀ i, i < it.1.length → mI M1 (4 + 1) i = nI (it.1.getD i 0).toNatClampNeg ∧ (it.1.getD i 0).toNatClampNeg < 256 ∧ nI (it.1.getD i 0).toNatClampNeg = it.1.getD i 0 := fun i hi => by
        obtain ⟨b, b1, b2⟩ := hb (it.1.getD i 0) (by rw [gD_e hi]; exact List.getElem_mem hi)
        have e : mI M1 (4 + 1) i = it.1.getD i 0 := by rw [← hM1]; exact emM_c _ _ hi (by decide)
        rw [e, b2, nI_clamp (by omega)]
        exact ⟨rfl, b1, rfl⟩
      obtain ⟨R, ep, hArr, hThg⟩ := key (fun i => (it.1.getD i 0).toNatClampNeg) (fun i hi => (hbt i hi).2.1) ⟨by omega, fun i hi => by rw [Nat.zero_add]; exact (hbt i hi).2.2⟩
      have hS4 : RdS (itM M1 4 0) 4 1464 (fun i => (it.1.getD i 0).toNatClampNeg) it.1.length := itM_D hRC.1 (Or.inr rfl) hRC.1.ours (by decide) hlen (by rw [← hM1]; exact emM_f _ _ _ _ _) (fun i hi => ⟨(hbt i hi).1, (hbt i hi).2.1⟩)
      have hti := sp_ti (d := 199) (by decide) hRC.1 hS4 (Nat.zero_le _)
      rw [ep] at hti
      obtain ⟨hi, -⟩ := pItem_ok (fun i hi => (hbt i hi).2.1) ep
      have hi : iOk R := hi
      obtain ⟨i1, i2, i3, i4, -, -⟩ := iOk_0 hi
      obtain ⟨hok, hokT, hokC, hone⟩ := iOk_src hi
      have hPA : ∀ A, CS (itM M1 4 0) it.1.length R A → TC A ∧ Rel A MR ∧ ∀ t', t' < 12 → RelT A MR κ ζ t' := fun A h => by
        have z := Rel_rdC hRC (Or.inr rfl) h.1
        exact ⟨z.1.1, z.1, fun t' ht' => z.2 κ ζ t' (hSC t' ht')⟩
      by_cases hk14 : κ t < 14
      · -- an array
        obtain ⟨hImg, hcm⟩ := hArr hk14
        obtain ⟨hmo, hm12⟩ := hms hk14
        have hn : R.1 = it.2.length := hImg.1
        have hPD : ∀ D, (∃ T, LR MR 0 it.2 [] T ∧ D = emM T 0 13 8 it.1) → TR D ∧ mI D 0 17 = nI R.1 ∧ sX6_things D = nI (fiN κ) := by
          rintro D ⟨T, hT, rfl⟩
          have z := Rel_laR hR hT it.1
          refine ⟨z.1.2.1, ?_, fill_R (fun t' ht' => z.2 κ ζ t' (hS t' ht'))⟩
          rw [emM_a _ _ (by decide) (by decide), hn]
          exact hT.2.2.2.2.1
        by_cases hf : 12 - fiN κ < R.1
        · refine fcX2 (sp_X5_twin_k (d := 200) (P := fun A => CS (itM M1 4 0) it.1.length R A) (Q := fun A => CS (itM M1 4 0) it.1.length R A) (x := -3) (by decide) hR.1 e1 hw hRC.1 hti (fun A h => (hPA A h).1) (fun A h => (sp_settle_u (by decide) (hPA A h).1 (fill_C (hPA A h).2.2) hc12 h.2.1 i2 hf).weaken (fun r B hB => ⟨hB.1, by rw [hB.2]; exact h⟩))) (sp_X6_twin_au (d := 200) (by decide) hR.2.1 ht s2 k1 hk hc12 i2 (by omega) hla hPD hf) rfl ?_
          rintro A D hA ⟨T, hT, rfl⟩
          exact (Rel_laR (hPA A hA).2.1 hT it.1).1
        · obtain ⟨h, hh, -⟩ := hom_ex (emE κ) R.1 (show fiN κ + R.1 ≤ 12 by omega)
          have hE16 : ∀ i, i < R.1 → κ (h i) = 16 := fun i a => of_decide_eq_true (hh i a).2.1
          have hsl : ∀ i, i < R.1 → it.2.getD i 0 < 12 ∧ κ (it.2.getD i 0) = rK R i ∧ ζ (it.2.getD i 0) = rZ R i := fun i a => by
            have a' : i < it.2.length := by omega
            obtain ⟨q1, q2⟩ := hImg.2 i a'
            refine ⟨hm12 _ ?_, q1.symm, q2.symm⟩
            rw [List.getD_eq_getElem?_getD, List.getElem?_eq_getElem a']
            exact List.getElem_mem a'
          have hK14 : ∀ i, i < R.1 → rK R i < 14 := fun i a => by
            rcases hi with ⟨z1, -, -⟩ | ⟨z1, -, z3, -, -⟩
            · exact (z1.2 i a).1
            · exfalso
              have := (hsl 0 i1).2.1
              have h0 : it.2.getD 0 0 = t := by
                have ei : it = wA 0 κ ζ (slW MR) (slV MR κ) 12 t [] := hit.symm.trans (if_pos hk14)
                have hpx : [] ++ [t] <+: it.2 := by
                  rw [ei]
                  by_cases c8 : κ t < 8
                  · rw [wA_p 11 List.not_mem_nil c8]; exact List.prefix_refl _
                  · rw [wA_n 11 List.not_mem_nil c8]; exact ceB_px 0 11 t (ζ t) 0 ([] ++ [t])
                exact (gDp hpx (show 0 < 0 + 1 from Nat.one_pos)).trans rfl
              rw [h0] at this
              omega
          have hm : homOk R.1 (fun i => it.2.getD i 0) h := homOk_of hh (fun i j a b hne z => hne (by
              have a' : i < it.2.length := by omega
              have b' : j < it.2.length := by omega
              have z : it.2.getD i 0 = it.2.getD j 0 := z
              rw [List.getD_eq_getElem?_getD, List.getElem?_eq_getElem a', List.getD_eq_getElem?_getD, List.getElem?_eq_getElem b'] at z
              exact (List.getElem_inj hmo.1).mp z)) (fun i j a b z => by
              have z : h i = it.2.getD j 0 := z
              have q1 := hE16 i a
              have q2 := (hsl j b).2.1
              have q3 := hK14 j b
              rw [z] at q1
              omega)
          have hsr : ∀ D, (∃ T, LR MR 0 it.2 [] T ∧ D = emM T 0 13 8 it.1) → srcR D (fun i => it.2.getD i 0) R.1 (rK R) (rZ R) (rW R) (rV R) := by
            rintro D ⟨T, hT, rfl⟩ i a
            obtain ⟨l1, l2, l3⟩ := hsl i a
            have eI : ∀ x, 1 ≤ x → x ≤ 7 → mI (emM T 0 13 8 it.1) x = mI MR x := fun x x1 x2 => (emM_I _ _ (by omega) (by omega)).trans (hT.2.2.1 x (by omega) (by omega) (by omega) (by omega) (by omega) (by omega))
            have eL : mL (emM T 0 13 8 it.1) = mL MR := by rw [emM_L, hT.2.1]
            have hrt := hS _ l1
            have hki := hK14 i a
            refine ⟨show it.2.getD i 0 < 24 by omega, ?_, ?_, ?_, fun z => by omega, fun j hj => ?_⟩
            · rw [emM_I _ _ (by decide) (by decide), hT.2.2.2.2.2.2.1 i (by omega), Nat.zero_add]
            · show mI (emM T 0 13 8 it.1) 1 (it.2.getD i 0) = _
              rw [eI 1 (by decide) (by decide), hrt.2.2.2.1, l2, kdI_lt (by omega)]
            · show mI (emM T 0 13 8 it.1) 2 (it.2.getD i 0) = _
              rw [eI 2 (by decide) (by decide), hrt.2.2.2.2.2.1 (by omega), l3]
            · have hj' : j < ζ (it.2.getD i 0) := by rw [l3]; exact hj
              obtain ⟨w1, w2⟩ := hcm i (by omega) j hj'
              obtain ⟨c1, c2, c3, c4⟩ := cells_of hrt j hj'
              have ev : slV MR κ (it.2.getD i 0) j = mL MR 5 (12 * it.2.getD i 0 + j) := if_neg (by omega)
              refine ⟨?_, ?_⟩
              · show mI (emM T 0 13 8 it.1) 4 (12 * it.2.getD i 0 + j) = _
                rw [eI 4 (by decide) (by decide), w1]
                exact c2
              · show mL (emM T 0 13 8 it.1) 5 (12 * it.2.getD i 0 + j) = _
                rw [eL, ← ev]
                unfold vO
                have hokc := hokC i a j hj
                by_cases c10 : rW R i j = 10
                · rw [if_pos c10]
                  obtain ⟨u', u1, u2, u3, -⟩ := hokc.2.2.2.2.2.2.2.2.2.2.1 c10
                  have u3 : (if u' < R.1 then rK R u' else 16) < 14 := u3
                  have hu' : u' < R.1 := by
                    by_cases y : u' < R.1
                    · exact y
                    · rw [if_neg y] at u3; omega
                  have hw10 : slW MR (it.2.getD i 0) j = 10 := by rw [← w1]; exact c10
                  obtain ⟨-, hl2⟩ := sl_lk hS _ l1 (show κ (it.2.getD i 0) < 14 by omega)
                  obtain ⟨u, v1, v2, v3⟩ := (hl2 j hj').2.1 hw10
                  have ew2 : rV R i j = lN (it.2.idxOf u) := by
                    rw [w2]
                    unfold vI
                    rw [if_pos hw10, v2, lC_N (by omega)]
                  have eix : it.2.idxOf u = u' := by
                    have hle := List.idxOf_le_length (a := u) (l := it.2)
                    have := congrArg lC (ew2.symm.trans u2)
                    rw [lC_N (by omega), lC_N (by omega)] at this
                    exact this
                  have hum : u ∈ it.2 := List.idxOf_lt_length_iff.mp (by omega)
                  rw [ew2, lC_N (by omega), v2]
                  show lN u = lN (it.2.getD (it.2.idxOf u) 0)
                  rw [gD_ix hum]
                · rw [if_neg c10, w2]
                  unfold vI
                  rw [if_neg (by rw [← w1]; exact c10)]
          have hhR : ∀ D, (∃ T, LR MR 0 it.2 [] T ∧ D = emM T 0 13 8 it.1) → Sp (fX6_news 199) [.ref 0, .ref 11, .int (nI R.1)] D (fun r B => r = some (.int (nI (h 0))) ∧ ∃ D0, (∃ T, LR MR 0 it.2 [] T ∧ D0 = emM T 0 13 8 it.1) ∧ SeR D0 (fun i => it.2.getD i 0) h (rK R) (rZ R) (rW R) (rV R) R.1 0 R.1 B) := fun D hD => by
            have hsD := hsr D hD
            have hDT := hPD D hD
            have hDR : Rel MC D ∧ ∀ t', t' < 12 → RelT MC D κ ζ t' := by
              obtain ⟨T, hT, rfl⟩ := hD
              have z := Rel_laR hR hT it.1
              exact ⟨z.1, fun t' ht' => z.2 κ ζ t' (hS t' ht')⟩
            exact (sp_news (by decide) hsD (fun t' ht' => emp_R (hDR.2 t' ht')) hok hh hm i1 hDT.1 hDR.1.2.2.1).weaken (fun r B hB => ⟨hB.1, D, hD, hB.2⟩)
          refine fcX2 (sp_X5_twin_k (d := 200) (P := fun A => CS (itM M1 4 0) it.1.length R A) (Q := fun B => ∃ A, CS (itM M1 4 0) it.1.length R A ∧ SeC A h (rK R) (rZ R) (rW R) (rV R) R.1 R.1 B) (x := nI (h 0)) (by decide) hR.1 e1 hw hRC.1 hti (fun A h => (hPA A h).1) (fun A hA => (sp_settle_k (by decide) hA.2.2.2.2 hA.2.1 (fun t' ht' => emp_C ((hPA A hA).2.2 t' ht')) hok hh (hPA A hA).1 (fill_C (hPA A hA).2.2) hc12 i1 (by omega)).weaken (fun r B hB => ⟨hB.1, A, hA, hB.2⟩))) (sp_X6_twin_ak (d := 200) (by decide) hR.2.1 ht s2 k1 hk hc12 i2 (by omega) hla hPD hhR (by omega)) rfl ?_
          rintro B D ⟨A, hA, hB⟩ ⟨D0, ⟨T, hT, rfl⟩, hD⟩
          have z := Rel_laR (hPA A hA).2.1 hT it.1
          exact Rel_set z.1 (fun t' ht' => z.2 κ ζ t' ((hPA A hA).2.2 t' ht')) hok hm hE16 hokT hokC hB hD
      · -- a bead or word
        have hRt := hThg hk14
        have hn1 : R.1 = 1 := by rw [hRt]; rfl
        have hTT : ∀ MC', Rel MC' MR → Rel MC' (stI (stI MR 11 0 (nI t)) 0 17 1) ∧ ∀ κ ζ t', RelT MC' MR κ ζ t' → RelT MC' (stI (stI MR 11 0 (nI t)) 0 17 1) κ ζ t' := fun MC' hR' => Rel_scr hR' ⟨rfl, rfl, rfl⟩ (fun a a1 a2 => by rw [mI_stI_c _ _ _ (by omega), mI_stI_c _ _ _ (by omega)]) (fun a _ => rfl) (fun k k1 k2 => by rw [mI_stI_o _ _ _ _ (by omega), mI_stI_c _ _ _ (by decide)])
        have hcT : sX6_things (stI (stI MR 11 0 (nI t)) 0 17 1) = nI (fiN κ) := fill_R (fun t' ht' => (hTT MC hR).2 κ ζ t' (hS t' ht'))
        by_cases hf : 12 - fiN κ < 1
        · refine fcX2 (sp_X5_twin_k (d := 200) (P := fun A => CS (itM M1 4 0) it.1.length R A) (Q := fun A => CS (itM M1 4 0) it.1.length R A) (x := -3) (by decide) hR.1 e1 hw hRC.1 hti (fun A h => (hPA A h).1) (fun A h => (sp_settle_u (by decide) (hPA A h).1 (fill_C (hPA A h).2.2) hc12 h.2.1 i2 (by omega)).weaken (fun r B hB => ⟨hB.1, by rw [hB.2]; exact h⟩))) (sp_X6_twin_tu (d := 200) (by decide) hR.2.1 ht s2 k1 hk hc12 (by omega) hcT hf) rfl ?_
          rintro A D hA rfl
          exact (hTT A (hPA A hA).2.1).1
        · obtain ⟨h, hh, -⟩ := hom_ex (emE κ) R.1 (show fiN κ + R.1 ≤ 12 by omega)
          have hE16 : ∀ i, i < R.1 → κ (h i) = 16 := fun i a => of_decide_eq_true (hh i a).2.1
          have hm : homOk R.1 (fun _ => t) h := homOk_of hh (fun i j a b hne => by omega) (fun i j a b z => by
            have z : h i = t := z
            have := hE16 i a
            rw [z] at this
            omega)
          have hsr : srcR (stI (stI MR 11 0 (nI t)) 0 17 1) (fun _ => t) R.1 (rK R) (rZ R) (rW R) (rV R) := by
            intro i a
            have ei : i = 0 := by omega
            subst ei
            rw [hRt]
            have hz0 : ζ t = 0 := hr.2.2.2.2.2.2.1 (by omega)
            refine ⟨show t < 24 by omega, ?_, ?_, ?_, fun _ => rfl, fun j hj => absurd hj (Nat.not_lt_zero j)⟩
            · rw [mI_stI_c _ _ _ (by decide)]; exact mI_stI_v _ _ _ _
            · rw [mI_stI_c _ _ _ (by decide), mI_stI_c _ _ _ (by decide)]; exact k1
            · rw [mI_stI_c _ _ _ (by decide), mI_stI_c _ _ _ (by decide), hr.2.2.2.2.2.1 hk, hz0]; rfl
          have hnw := sp_news (d := 199) (by decide) hsr (fun t' ht' => emp_R ((hTT MC hR).2 κ ζ t' (hS t' ht'))) hok hh hm i1 (hTT MC hR).1.2.1 (hTT MC hR).1.2.2.1
          rw [hn1] at hnw
          refine fcX2 (sp_X5_twin_k (d := 200) (P := fun A => CS (itM M1 4 0) it.1.length R A) (Q := fun B => ∃ A, CS (itM M1 4 0) it.1.length R A ∧ SeC A h (rK R) (rZ R) (rW R) (rV R) R.1 R.1 B) (x := nI (h 0)) (by decide) hR.1 e1 hw hRC.1 hti (fun A h => (hPA A h).1) (fun A hA => (sp_settle_k (by decide) hA.2.2.2.2 hA.2.1 (fun t' ht' => emp_C ((hPA A hA).2.2 t' ht')) hok hh (hPA A hA).1 (fill_C (hPA A hA).2.2) hc12 i1 (by omega)).weaken (fun r B hB => ⟨hB.1, A, hA, hB.2⟩))) (sp_X6_twin_tk (d := 200) (by decide) hR.2.1 ht s2 k1 hk hc12 (by omega) hcT hnw (by omega)) rfl ?_
          rintro B D ⟨A, hA, hB⟩ hD
          rw [← hn1] at hD
          have z := hTT A (hPA A hA).2.1
          exact Rel_set z.1 (fun t' ht' => z.2 κ ζ t' ((hPA A hA).2.2 t' ht')) hok hm hE16 hokT hokC hB hD
