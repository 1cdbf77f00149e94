-- LAY AND PART: the faces
theorem apM_I (M : xM) {so len n x : Nat} (h1 : x ≠ 2) (h2 : x ≠ 3) : mI (apM M so len n) x = mI M x := by
  unfold apM
  rw [mI_stI_c _ _ _ h1, mI_cpI_o _ _ _ _ _ _ h2]
theorem apM_L (M : xM) (so len n : Nat) : mL (apM M so len n) = mL M := rfl
theorem apM_f (M : xM) (so len n : Nat) : mI (apM M so len n) 2 1 = nI (len + n) := mI_stI_v _ _ _ _
theorem apM_o (M : xM) {so len n i : Nat} (h : i < len) : mI (apM M so len n) 3 i = mI M 3 i := by
  unfold apM
  rw [mI_stI_c _ _ _ (by decide)]
  show (if 3 = 3 then va_cpy (M.1 (so + 1)) (M.1 3) 0 len n else M.1 3) i = M.1 3 i
  rw [if_pos rfl]
  unfold va_cpy
  rw [if_neg (by omega)]
theorem apM_c (M : xM) {so len n i : Nat} (h : i < n) : mI (apM M so len n) 3 (len + i) = mI M (so + 1) i := by
  unfold apM
  rw [mI_stI_c _ _ _ (by decide)]
  show (if 3 = 3 then va_cpy (M.1 (so + 1)) (M.1 3) 0 len n else M.1 3) (len + i) = M.1 (so + 1) i
  rw [if_pos rfl]
  unfold va_cpy
  rw [if_pos (by omega), Nat.zero_add, Nat.add_sub_cancel_left]
theorem nI_inj {a b : Nat} (ha : a < 2 ^ 31) (hb : b < 2 ^ 31) (h : nI a = nI b) : a = b := by
  have := congrArg Int32.toInt h
  rw [nI_toInt (by omega), nI_toInt (by omega)] at this
  omega
theorem Rel_app {MC MR : xM} (hR : Rel MC MR) {so len n : Nat} (l : List Int32) (hn : l.length = n) (hlen : mI MC 2 1 = nI len) (b1 : len ≤ 200) (hf : len + n ≤ 200) (hc : ∀ i, i < n → mI MC (so + 1) i = l.getD i 0) (hr : ∀ i, i < n → mI MR 8 i = l.getD i 0) (hb : allB l) : Rel (apM MC so len n) (emA MR 0 6 6 len n (mI MR 8)) := by
  obtain ⟨h1, h2, h3, h4, ⟨len', pos, l1, l2, l3, l4, l5, l6, l7⟩, ⟨o0, o1, o2, o3, o4⟩⟩ := hR
  have e : len' = len := nI_inj (by omega) (by omega) (l3.symm.trans hlen)
  subst e
  refine ⟨(sT_apM MC so len' n).TC h1, (sT_emA MR 0 6 6 len' n _).TR h2, h3.k (emA_I MR _ (by decide) (by decide)), h4.k (fun a ha => ⟨apM_I MC (by omega) (by omega), rfl⟩) (fun a a1 a2 => ⟨emA_I MR _ (by omega) (by omega), rfl⟩), ⟨len' + n, pos, hf, by omega, apM_f MC so len' n, emA_f MR _ _ _ _ _ _, ?_, ?_, fun i hi => ?_⟩, ?_, ?_, ?_, ?_, ?_⟩
  · rw [apM_I MC (by decide) (by decide)]; exact l5
  · rw [emA_a MR _ (by decide) (by decide)]; exact l6
  · by_cases c : i < len'
    · rw [apM_o MC c, emA_o MR _ c (by decide)]
      exact l7 i c
    · obtain ⟨j, rfl⟩ : ∃ j, i = len' + j := ⟨i - len', by omega⟩
      rw [apM_c MC (show j < n by omega), emA_c MR _ (show j < n by omega) (by decide), hc j (by omega), hr j (by omega)]
      obtain ⟨b, b1, b2⟩ := hb (l.getD j 0) (by
        rw [List.getD_eq_getElem?_getD, List.getElem?_eq_getElem (show j < l.length by omega)]
        exact List.getElem_mem _)
      exact ⟨b, b1, b2, b2⟩
  · rw [apM_I MC (by decide) (by decide), emA_a MR _ (by decide) (by decide)]; exact o0
  · rw [apM_I MC (by decide) (by decide), emA_a MR _ (by decide) (by decide)]; exact o1
  · rw [apM_I MC (by decide) (by decide), emA_a MR _ (by decide) (by decide)]; exact o2
  · intro k hk
    rw [apM_I MC (by decide) (by decide), emA_I MR _ (by decide) (by decide)]; exact o3 k hk
  · intro k hk
    rw [emA_L]; exact o4 k hk
theorem fcX2 {F G : xF} {as : List Value} {MC MR : xM} {x y : Int32} {P Q : xM → Prop} (h1 : Sp F as MC (fun r M' => r = some (.int x) ∧ P M')) (h2 : Sp G as MR (fun r M' => r = some (.int y) ∧ Q M')) (e : x = y) (hR : ∀ A B, P A → Q B → Rel A B) : ∃ (ρ : Int32) (QC QR : xM → Prop), Sp F as MC (fun r M' => r = some (.int ρ) ∧ QC M') ∧ Sp G as MR (fun r M' => r = some (.int ρ) ∧ QR M') ∧ ∀ A B, QC A → QR B → Rel A B := by
  subst e
  exact ⟨x, P, Q, h1, h2, hR⟩
theorem RelB_len {MC MR : xM} (hR : Rel MC MR) : ∃ len pos, len ≤ 200 ∧ pos ≤ len ∧ mI MC 2 1 = nI len ∧ mI MR 0 6 = nI len ∧ mI MC 0 10 = nI pos ∧ mI MR 0 7 = nI pos ∧ ∀ i, i < len → ∃ b, b < 256 ∧ mI MC 3 i = nI b ∧ mI MR 6 i = nI b := hR.2.2.2.2.1
theorem fc_lay : Fc_lay Rel := by
  intro a0 MC MR hR
  rcases slot_cases a0 with ⟨s1, s2⟩ | ⟨t, ht, rfl, s1, s2⟩
  · exact fcI (sp_X5_lay_e (d := 200) (by decide) a0 hR.1 (by rw [slotBad s1]; decide)) (sp_X6_lay_b (d := 200) (by decide) a0 hR.2.1 s2) (slotBad s1) hR
  · obtain ⟨κ, ζ, hS⟩ := hR.2.2.2.1
    have hr := hS t ht
    have e0 := slotE_of ht hr s1
    rw [nIL (by omega)] at s2
    by_cases c : κ t = 16
    · have e1 : sX5_slotError MC (nI t) = -5 := by rw [e0, c]; rfl
      exact fcI (sp_X5_lay_e (d := 200) (by decide) _ hR.1 (by rw [e1]; decide)) (sp_X6_lay_e (d := 200) (by decide) t hR.2.1 ht s2 (by rw [hr.2.2.2.1, c]; rfl)) e1 hR
    · have hk : κ t < 16 := by have := hr.1; omega
      have e1 : sX5_slotError MC (nI t) = 0 := by rw [e0]; exact if_neg c
      obtain ⟨m, hm, m1, m2⟩ := hR.2.2.2.2.2.1
      obtain ⟨len, pos, l1, l2, l3, l4, -⟩ := RelB_len hR
      have hw := sp_write (d := 199) (by decide) (WrR_of hR hS (Or.inl ⟨rfl, rfl⟩)) hm ht hk (sl_15' hr)
      have hb := sl_b hS hm ht hk
      have hlen := itR_len (m := m) (sl_lk hS) ht
      have hla := sp_laS (d := 199) (by decide) hR hS hm ht hk
      generalize itR m κ ζ (slW MR) (slV MR κ) t = it at hw hb hlen hla
      have hRC := Rel_wrC (m := m) hR (Or.inl ⟨rfl, rfl⟩) it.2 it.1
      have h1 : mI (emM (nuM (wrM MC 46 4 m) 46 it.2) 4 1 (4 + 1) it.1) 2 1 = nI len := (congrFun (wr_I MC _ _ (by decide) (by decide) (by decide) (by decide)) 1).trans l3
      have hq : ∀ A, (∃ R, LR MR 0 it.2 [] R ∧ A = emM R 0 13 8 it.1) → TR A ∧ mI A 0 6 = nI len ∧ mI A 0 13 = nI it.1.length ∧ (∀ i, i < it.1.length → mI A 8 i = it.1.getD i 0) ∧ Rel (emM (nuM (wrM MC 46 4 m) 46 it.2) 4 1 (4 + 1) it.1) A := by
        rintro A ⟨R, hL, rfl⟩
        have q := (Rel_laR hRC hL it.1).1
        exact ⟨q.2.1, by rw [emM_a _ _ (by decide) (by decide), hL.2.2.2.1 6 (by decide) (by decide) (by decide)]; exact l4, emM_f _ _ _ _ _, fun i hi => emM_c _ _ hi (by decide), q⟩
      by_cases hf : len + it.1.length ≤ 200
      · refine fcX (sp_X5_lay_k (d := 200) (by decide) t m hR.1 e1 m1 hw hRC.1 h1 (emM_f _ _ _ _ _) l1 hlen hf) (sp_X6_lay_k (d := 200) (Q2 := fun B => ∃ A, (∃ R, LR MR 0 it.2 [] R ∧ A = emM R 0 13 8 it.1) ∧ B = emA A 0 6 6 len it.1.length (mI A 8)) (by decide) t m (κ t) hR.2.1 ht s2 (by rw [hr.2.2.2.1, kdI_lt hk]) hk m2 hla (fun A hA => (hq A hA).1) (fun A hA => (sp_co_k (hq A hA).1 (hq A hA).2.1 (hq A hA).2.2.1 l1 (by omega) hf).weaken (fun r M' h => ⟨h.1, A, hA, h.2⟩))) rfl ?_
        rintro B ⟨A, hA, rfl⟩
        obtain ⟨q1, q2, q3, q4, q5⟩ := hq A hA
        exact Rel_app q5 it.1 rfl h1 l1 hf (fun i hi => emM_c _ _ hi (by decide)) q4 hb
      · refine fcX (sp_X5_lay_f (d := 200) (by decide) t m hR.1 e1 m1 hw hRC.1 h1 (emM_f _ _ _ _ _) l1 hlen (by omega)) (sp_X6_lay_k (d := 200) (Q2 := fun B => ∃ R, LR MR 0 it.2 [] R ∧ B = emM R 0 13 8 it.1) (by decide) t m (κ t) hR.2.1 ht s2 (by rw [hr.2.2.2.1, kdI_lt hk]) hk m2 hla (fun A hA => (hq A hA).1) (fun A hA => (sp_co_f (hq A hA).1 (hq A hA).2.1 (hq A hA).2.2.1 l1 (by omega) (by omega)).weaken (fun r M' h => ⟨h.1, by rw [h.2]; exact hA⟩))) rfl ?_
        intro B hB
        exact (hq B hB).2.2.2.2
theorem fdR_eq {e : Int32} {A B A' B' : Nat → Int32} {n1 n2 : Nat} (h1 : ∀ i, i < n1 → A i = A' i) (h2 : ∀ i, i < n2 → B i = B' i) : fdR e A B (min n1 n2) 0 (min n1 n2) (n1 = n2) = fdR e A' B' (min n1 n2) 0 (min n1 n2) (n1 = n2) := by
  unfold fdR
  rw [fdN_c (min n1 n2) 0 (min n1 n2) (by omega) (fun j hj => ⟨h1 j (by omega), h2 j (by omega)⟩)]
theorem fdR_sym {e : Int32} {A B : Nat → Int32} {n1 n2 : Nat} : fdR e A B (min n1 n2) 0 (min n1 n2) (n1 = n2) = fdR e B A (min n2 n1) 0 (min n2 n1) (n2 = n1) := by
  unfold fdR
  rw [fdN_sym A B, Nat.min_comm n1 n2]
  split
  · rfl
  · by_cases c : n1 = n2
    · rw [if_pos c, if_pos c.symm]
    · rw [if_neg c, if_neg (fun z => c z.symm)]
theorem fdR_4 {A B : Nat → Int32} {n1 n2 : Nat} (h1 : n1 ≤ 1500) : (if fdR (-1) A B (min n1 n2) 0 (min n1 n2) (n1 = n2) < 0 then -4 else fdR (-1) A B (min n1 n2) 0 (min n1 n2) (n1 = n2)) = fdR (-4) A B (min n1 n2) 0 (min n1 n2) (n1 = n2) := by
  unfold fdR
  by_cases c : fdN A B (min n1 n2) 0 < min n1 n2
  · rw [if_pos c, if_pos c, if_neg (nI_nn (by omega))]
  · rw [if_neg c, if_neg c]
    by_cases c2 : n1 = n2
    · rw [if_pos c2, if_pos c2]; rfl
    · rw [if_neg c2, if_neg c2, if_neg (nI_nn (by omega))]
theorem slW_c {M M' : xM} (h : mI M' 4 = mI M 4) : slW M' = slW M := by unfold slW; rw [h]
theorem slV_c {M M' : xM} (κ : Nat → Nat) (h : mL M' = mL M) : slV M' κ = slV M κ := by unfold slV; rw [h]
theorem fc_part : Fc_part Rel := by
  intro a0 a1 MC MR hR
  obtain ⟨κ, ζ, hS⟩ := hR.2.2.2.1
  rcases slotP_of hS a0 a1 with ⟨e, h⟩ | ⟨t, u, ht, hu, rfl, rfl, s1, s2, e⟩
  · have g := sp_X5_part_e (d := 200) (by decide) a0 a1 hR.1 (by rw [e]; decide)
    cases hq : sX6_isThing a0.toInt64 with
    | false => exact fcI g (sp_X6_part_b1 (d := 200) (by decide) a0 a1 hR.2.1 hq) e hR
    | true => exact fcI g (sp_X6_part_b2 (d := 200) (by decide) a0 a1 hR.2.1 hq (by
        rcases h with h | h
        · rw [h] at hq; cases hq
        · exact h)) e hR
  · rw [nIL (by omega)] at s1 s2
    have hrt := hS t ht
    have hru := hS u hu
    by_cases c1 : κ t = 16
    · have e1 : sX5_slotPairError MC (nI t) (nI u) = -5 := by
        rw [e, c1]
        by_cases c2 : κ u = 16
        · rw [c2]; rfl
        · unfold eS; rw [if_neg c2]; rfl
      exact fcI (sp_X5_part_e (d := 200) (by decide) _ _ hR.1 (by rw [e1]; decide)) (sp_X6_part_e1 (d := 200) (by decide) t u hR.2.1 ht hu s1 s2 (by rw [hrt.2.2.2.1, c1]; rfl)) e1 hR
    · have hkt : κ t < 16 := by have := hrt.1; omega
      have k1 : mI MR 1 t = nI (κ t) := by rw [hrt.2.2.2.1, kdI_lt hkt]
      by_cases c2 : κ u = 16
      · have e1 : sX5_slotPairError MC (nI t) (nI u) = -5 := by
          rw [e, c2]; unfold eS; rw [if_neg c1]; rfl
        exact fcI (sp_X5_part_e (d := 200) (by decide) _ _ hR.1 (by rw [e1]; decide)) (sp_X6_part_e2 (d := 200) (by decide) t u (κ t) hR.2.1 ht hu s1 s2 k1 hkt (by rw [hru.2.2.2.1, c2]; rfl)) e1 hR
      · have hku : κ u < 16 := by have := hru.1; omega
        have e1 : sX5_slotPairError MC (nI t) (nI u) = 0 := by
          rw [e]; unfold eS; rw [if_neg c1, if_neg c2]; rfl
        have k2 : mI MR 1 u = nI (κ u) := by rw [hru.2.2.2.1, kdI_lt hku]
        have hw := sp_write (d := 199) (m := 0) (by decide) (WrR_of hR hS (Or.inl ⟨rfl, rfl⟩)) (by decide) ht hkt (sl_15' hrt)
        have hlt := itR_len (m := 0) (sl_lk hS) ht
        have hlu := itR_len (m := 0) (sl_lk hS) hu
        have hla := sp_laS (d := 199) (m := 0) (by decide) hR hS (by decide) ht hkt
        have hRC := Rel_wrC (m := 0) hR (Or.inl ⟨rfl, rfl⟩) (itR 0 κ ζ (slW MR) (slV MR κ) t).2 (itR 0 κ ζ (slW MR) (slV MR κ) t).1
        have hSC : ∀ t', t' < 12 → RelT (emM (nuM (wrM MC 46 4 0) 46 (itR 0 κ ζ (slW MR) (slV MR κ) t).2) 4 1 (4 + 1) (itR 0 κ ζ (slW MR) (slV MR κ) t).1) MR κ ζ t' := by
          intro t' ht'
          have q := hS t' ht'
          unfold RelT at q ⊢
          rw [wr_I MC _ _ (show 54 + 3 * t' ≠ 4 by omega) (by omega) (by omega) (by omega), wr_I MC _ _ (show 54 + 3 * t' + 1 ≠ 4 by omega) (by omega) (by omega) (by omega)]
          exact q
        have hw2 := sp_write (d := 199) (m := 0) (by decide) (WrR_of hRC hSC (Or.inr ⟨rfl, rfl⟩)) (by decide) hu hku (sl_15' (hSC u hu))
        have hQ : ∀ A, (∃ R, LR MR 0 (itR 0 κ ζ (slW MR) (slV MR κ) t).2 [] R ∧ A = emM R 0 13 8 (itR 0 κ ζ (slW MR) (slV MR κ) t).1) → Rel MC A ∧ (∀ t', t' < 12 → RelT MC A κ ζ t') ∧ mI A 0 13 = nI (itR 0 κ ζ (slW MR) (slV MR κ) t).1.length ∧ (∀ i, i < (itR 0 κ ζ (slW MR) (slV MR κ) t).1.length → mI A 8 i = (itR 0 κ ζ (slW MR) (slV MR κ) t).1.getD i 0) ∧ mI A 4 = mI MR 4 ∧ mL A = mL MR := by
          rintro A ⟨R, hL, rfl⟩
          have q := Rel_laR hR hL (itR 0 κ ζ (slW MR) (slV MR κ) t).1
          exact ⟨q.1, fun t' ht' => q.2 κ ζ t' (hS t' ht'), emM_f _ _ _ _ _, fun i hi => emM_c _ _ hi (by decide), by rw [emM_I _ _ (by decide) (by decide)]; exact hL.2.2.1 4 (by decide) (by decide) (by decide) (by decide) (by decide) (by decide), hL.2.1⟩
        have hH : ∀ B, (∃ A, (∃ R, LR MR 0 (itR 0 κ ζ (slW MR) (slV MR κ) t).2 [] R ∧ A = emM R 0 13 8 (itR 0 κ ζ (slW MR) (slV MR κ) t).1) ∧ B = hoM A (itR 0 κ ζ (slW MR) (slV MR κ) t).1.length) → Rel MC B ∧ (∀ t', t' < 12 → RelT MC B κ ζ t') ∧ mI B 0 15 = nI (itR 0 κ ζ (slW MR) (slV MR κ) t).1.length ∧ (∀ i, i < (itR 0 κ ζ (slW MR) (slV MR κ) t).1.length → mI B 9 i = (itR 0 κ ζ (slW MR) (slV MR κ) t).1.getD i 0) ∧ slW B = slW MR ∧ slV B κ = slV MR κ := by
          rintro B ⟨A, hA, rfl⟩
          obtain ⟨q1, q2, q3, q4, q5, q6⟩ := hQ A hA
          have z := Rel_scr (MR' := hoM A (itR 0 κ ζ (slW MR) (slV MR κ) t).1.length) q1 (sT_hoM A _) (fun a a1 a2 => hoM_I A _ (by omega) (by omega)) (fun a _ => rfl) (fun k _ _ => hoM_0 A _ (by omega))
          exact ⟨z.1, fun t' ht' => z.2 κ ζ t' (q2 t' ht'), hoM_f A _, fun i hi => (hoM_9 A hi).trans (q4 i hi), (slW_c (hoM_I A _ (by decide) (by decide))).trans (slW_c q5), slV_c κ q6⟩
        have hla2 : ∀ B, (∃ A, (∃ R, LR MR 0 (itR 0 κ ζ (slW MR) (slV MR κ) t).2 [] R ∧ A = emM R 0 13 8 (itR 0 κ ζ (slW MR) (slV MR κ) t).1) ∧ B = hoM A (itR 0 κ ζ (slW MR) (slV MR κ) t).1.length) → Sp (fX6_laysAll 199) [.ref 0, .int (nI u), .int (nI 0)] B (fun r C => r = some (.int (nI (itR 0 κ ζ (slW MR) (slV MR κ) u).1.length)) ∧ Rel MC C ∧ mI C 0 13 = nI (itR 0 κ ζ (slW MR) (slV MR κ) u).1.length ∧ mI C 0 15 = nI (itR 0 κ ζ (slW MR) (slV MR κ) t).1.length ∧ (∀ i, i < (itR 0 κ ζ (slW MR) (slV MR κ) u).1.length → mI C 8 i = (itR 0 κ ζ (slW MR) (slV MR κ) u).1.getD i 0) ∧ (∀ i, i < (itR 0 κ ζ (slW MR) (slV MR κ) t).1.length → mI C 9 i = (itR 0 κ ζ (slW MR) (slV MR κ) t).1.getD i 0)) := by
          intro B hB
          obtain ⟨q1, q2, q3, q4, q5, q6⟩ := hH B hB
          have z := sp_laS (d := 199) (m := 0) (by decide) q1 q2 (by decide) hu hku
          rw [q5, q6] at z
          refine z.weaken ?_
          rintro r C ⟨e1, R, hL, rfl⟩
          refine ⟨e1, (Rel_laR q1 hL _).1, emM_f _ _ _ _ _, ?_, fun i hi => emM_c _ _ hi (by decide), fun i hi => ?_⟩
          · rw [emM_a _ _ (by decide) (by decide), hL.2.2.2.1 15 (by decide) (by decide) (by decide)]; exact q3
          · rw [emM_I _ _ (by decide) (by decide), hL.2.2.1 9 (by decide) (by decide) (by decide) (by decide) (by decide) (by decide)]; exact q4 i hi
        have hRC2 := Rel_wrC (m := 0) hRC (Or.inr (Or.inl ⟨rfl, rfl⟩)) (itR 0 κ ζ (slW MR) (slV MR κ) u).2 (itR 0 κ ζ (slW MR) (slV MR κ) u).1
        refine fcX (sp_X5_part_k (d := 200) (by decide) t u hR.1 e1 hw hRC.1 hw2 hRC2.1 (sp_fd (d := 199) (by decide) hRC2.1 ((congrFun (wr_I _ _ _ (by decide) (by decide) (by decide) (by decide)) 1).trans (emM_f _ 4 1 5 _)) (emM_f _ _ _ _ _) hlt hlu)) (sp_X6_part_k (d := 200) (z := fdR (-1) (fun i => (itR 0 κ ζ (slW MR) (slV MR κ) u).1.getD i 0) (fun i => (itR 0 κ ζ (slW MR) (slV MR κ) t).1.getD i 0) (min (itR 0 κ ζ (slW MR) (slV MR κ) u).1.length (itR 0 κ ζ (slW MR) (slV MR κ) t).1.length) 0 (min (itR 0 κ ζ (slW MR) (slV MR κ) u).1.length (itR 0 κ ζ (slW MR) (slV MR κ) t).1.length) ((itR 0 κ ζ (slW MR) (slV MR κ) u).1.length = (itR 0 κ ζ (slW MR) (slV MR κ) t).1.length)) (by decide) t u (κ t) (κ u) hR.2.1 ht hu s1 s2 k1 hkt k2 hku hla (fun A hA => (hQ A hA).1.2.1) (fun A hA => (sp_ho (hQ A hA).1.2.1 (hQ A hA).2.2.1 (by omega)).weaken (fun r M' h => ⟨h.1, A, hA, h.2⟩)) (fun B hB => (hH B hB).1.2.1) hla2 (fun C hC => hC.1.2.1) (fun C hC => ?_)) ?_ ?_
        · have q := sp_un (d := 199) hC.1.2.1 hC.2.1 hC.2.2.1 (by omega) (by omega)
          rw [fdR_eq hC.2.2.2.1 hC.2.2.2.2] at q
          exact q
        · rw [fdR_4 (by omega), fdR_sym, fdR_eq (A' := fun i => (itR 0 κ ζ (slW MR) (slV MR κ) u).1.getD i 0) (B' := fun i => (itR 0 κ ζ (slW MR) (slV MR κ) t).1.getD i 0)]
          · intro i hi
            exact emM_c _ _ hi (by decide)
          · intro i hi
            exact (congrFun (wr_I _ _ _ (by decide) (by decide) (by decide) (by decide)) i).trans (emM_c _ _ hi (by decide))
        · intro B hB
          have := hB.1
          exact Rel_wrC (m := 0) (Rel_wrC (m := 0) hB.1 (Or.inl ⟨rfl, rfl⟩) _ _) (Or.inr (Or.inl ⟨rfl, rfl⟩)) _ _
