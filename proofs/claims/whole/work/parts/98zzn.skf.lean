-- READING: the relation; SKIP: the face
theorem Rel_scrC2 {MC MC' MR : xM} (hR : Rel MC MR) (hT : TC MC') (hI : ∀ a, a = 0 ∨ a = 2 ∨ a = 3 ∨ 53 ≤ a → mI MC' a = mI MC a) (hL : ∀ a, 54 ≤ a → mL MC' a = mL MC a) : Rel MC' MR ∧ ∀ κ ζ t, RelT MC MR κ ζ t → RelT MC' MR κ ζ t := by
  obtain ⟨a1, a2, a3, ⟨κ, ζ, hS⟩, a5, a6⟩ := hR
  have hr : ∀ κ ζ t, RelT MC MR κ ζ t → RelT MC' MR κ ζ t := by
    intro κ ζ t q
    unfold RelT at q ⊢
    rw [hI (54 + 3 * t) (by omega), hI (54 + 3 * t + 1) (by omega), hL (54 + 3 * t + 2) (by omega)]
    exact q
  refine ⟨⟨hT, a2, a3, ⟨κ, ζ, fun t ht => hr _ _ _ (hS t ht)⟩, ?_, ?_⟩, hr⟩
  · unfold RelB at a5 ⊢
    rw [hI 2 (by omega), hI 3 (by omega), hI 0 (by omega)]
    exact a5
  · unfold RelO at a6 ⊢
    rw [hI 0 (by omega), hI 53 (by omega)]
    exact a6
theorem Rel_rdC {MC MR A : xM} (hR : Rel MC MR) {so q : Nat} (hso : so = 2 ∨ so = 4) (h : CF (itM MC so q) A) : Rel A MR ∧ ∀ κ ζ t, RelT MC MR κ ζ t → RelT A MR κ ζ t :=
  Rel_scrC2 hR (h.1.TC (itM_TC hR.1 hso)) (fun a ha => ((h.2 a (by omega)).1).trans (itM_I MC (by omega))) (fun a ha => (h.2 a (by omega)).2)
theorem Rel_rdR {MC MR A : xM} (hR : Rel MC MR) (h : RFm MR A) : Rel MC A ∧ ∀ κ ζ t, t < 12 → RelT MC MR κ ζ t → RelT MC A κ ζ t := by
  obtain ⟨h1, h2, h3, h4, h5, h6, h7⟩ := h
  have hr : ∀ κ ζ t, t < 12 → RelT MC MR κ ζ t → RelT MC A κ ζ t := fun κ ζ t ht q => q.k (fun _ => rfl) (fun _ _ => rfl) (fun _ _ => rfl) (h4 t ht).1 (h4 t ht).2.1 (h4 t ht).2.2 (fun i hi => (h5 _ (by omega)).1) (fun i hi => (h5 _ (by omega)).2)
  obtain ⟨a1, a2, a3, ⟨κ, ζ, hS⟩, ⟨len, pos, b1, b2, b3, b4, b5, b6, b7⟩, ⟨⟨m, hm, m1, m2⟩, o1, o2, o3, o4⟩⟩ := hR
  refine ⟨⟨a1, h1.TR a2, h7, ⟨κ, ζ, fun t ht => hr _ _ _ ht (hS t ht)⟩, ⟨len, pos, b1, b2, b3, ?_, b5, ?_, ?_⟩, ⟨m, hm, m1, ?_⟩, ?_, ?_, ?_, ?_⟩, hr⟩
  · rw [h6 6 (by decide) (by decide) (by decide) (by decide)]; exact b4
  · rw [h6 7 (by decide) (by decide) (by decide) (by decide)]; exact b6
  · intro i hi
    rw [h2 6 (by decide) (by decide) (by decide) (by decide) (by decide) (by decide)]; exact b7 i hi
  · rw [h6 8 (by decide) (by decide) (by decide) (by decide)]; exact m2
  · rw [h6 9 (by decide) (by decide) (by decide) (by decide)]; exact o1
  · rw [h6 10 (by decide) (by decide) (by decide) (by decide)]; exact o2
  · intro k hk
    rw [h2 7 (by decide) (by decide) (by decide) (by decide) (by decide) (by decide)]; exact o3 k hk
  · intro k hk
    rw [h3 18 (by decide) (by decide)]; exact o4 k hk
theorem Rel_ft {MC MR : xM} (hR : Rel MC MR) (L : Nat) : Rel MC (ftM MR L) ∧ ∀ κ ζ t, RelT MC MR κ ζ t → RelT MC (ftM MR L) κ ζ t := Rel_scr hR (sT_ftM MR L) (fun a _ _ => ftM_I MR L (by omega) (by omega)) (fun a _ => rfl) (fun k _ _ => ftM_0 MR L (by omega))
/-- the tape's bytes -/
def tpB (MR : xM) (i : Nat) : Nat := (mI MR 6 i).toNatClampNeg
theorem tp_S {MC MR : xM} (hR : Rel MC MR) {L : Nat} (hL : mI MR 0 6 = nI L) (bl : L ≤ 200) : RfS (ftM MR L) (tpB MR) L ∧ (∀ q, RdS (itM MC 2 q) 2 200 (tpB MR) L) ∧ ∀ i, i < L → tpB MR i < 256 := by
  obtain ⟨len, pos, l1, l2, l3, l4, l5, l6, l7⟩ := RelB_len hR
  have e : len = L := nI_inj (by omega) (by omega) (l4.symm.trans hL)
  subst e
  have hb : ∀ i, i < len → mI MC 3 i = nI (tpB MR i) ∧ mI MR 6 i = nI (tpB MR i) ∧ tpB MR i < 256 := by
    intro i hi
    obtain ⟨b, b1, b2, b3⟩ := l7 i hi
    have e : tpB MR i = b := by unfold tpB; rw [b3, nI_clamp (by omega)]
    rw [e]; exact ⟨b2, b3, b1⟩
  exact ⟨⟨(sT_ftM MR len).TR hR.2.1, bl, ftM_f MR len, fun i hi => ⟨(ftM_14 MR hi).trans (hb i hi).2.1, (hb i hi).2.2⟩⟩, fun q => itM_D hR.1 (Or.inl rfl) hR.1.tape (by decide) bl l3 (fun i hi => ⟨(hb i hi).1, (hb i hi).2.2⟩), fun i hi => (hb i hi).2.2⟩
theorem pItem_e {B : Nat → Nat} {L p f : Nat} (h : pItem B L p = .error f) (hp : p ≤ L) : f ≤ L := by
  unfold pItem at h
  split at h
  · rename_i c
    split at h
    · exact pArr_e _ _ _ _ _ h c
    · split at h
      · split at h
        · rename_i e; injection h with h; subst h; exact pWord_e e (by omega)
        · cases h
      · split at h
        · split at h
          · rename_i e
            injection h with h
            subst h
            unfold pBead at e
            split at e
            · cases e
            · injection e with e; omega
          · cases h
        · injection h with h; omega
  · injection h with h; omega
/-- a position moves on both sides -/
theorem Rel_pos {MC MR : xM} (hR : Rel MC MR) {L q : Nat} (hL : mI MR 0 6 = nI L) (bl : L ≤ 200) (hq : q ≤ L) : Rel (stI MC 0 10 (nI q)) (stI MR 0 7 (nI q)) := by
  obtain ⟨h1, h2, h3, h4, ⟨len, pos, b1, b2, b3, b4, b5, b6, b7⟩, ⟨⟨m, hm, m1, m2⟩, o1, o2, o3, o4⟩⟩ := hR
  have e : len = L := nI_inj (by omega) (by omega) (b4.symm.trans hL)
  subst e
  refine ⟨(sT.I MC 0 10 _).TC h1, (sT.I MR 0 7 _).TR h2, h3.k (mI_stI_c _ _ _ (by decide)), h4.st0 _ _ _ _, ⟨len, q, b1, hq, ?_, ?_, mI_stI_v _ _ _ _, mI_stI_v _ _ _ _, ?_⟩, ⟨m, hm, ?_, ?_⟩, ?_, ?_, ?_, ?_⟩
  · rw [mI_stI_c _ _ _ (by decide)]; exact b3
  · rw [mI_stI_o _ _ _ _ (by decide)]; exact b4
  · intro i hi
    rw [mI_stI_c _ _ _ (by decide), mI_stI_c _ _ _ (by decide)]
    exact b7 i hi
  · rw [mI_stI_o _ _ _ _ (by decide)]; exact m1
  · rw [mI_stI_o _ _ _ _ (by decide)]; exact m2
  · rw [mI_stI_o _ _ _ _ (by decide), mI_stI_o _ _ _ _ (by decide)]; exact o1
  · rw [mI_stI_o _ _ _ _ (by decide), mI_stI_o _ _ _ _ (by decide)]; exact o2
  · intro k hk
    rw [mI_stI_c _ _ _ (by decide), mI_stI_c _ _ _ (by decide)]; exact o3 k hk
  · intro k hk
    rw [mL_stI_c]; exact o4 k hk
/-- what both have behind a reading from the tape -/
theorem rd_C {MC MR A : xM} (hR : Rel MC MR) {so q : Nat} (hso : so = 2 ∨ so = 4) (h : CF (itM MC so q) A) : TC A ∧ ∀ x, x = 0 ∨ x = 2 ∨ x = 3 → mI A x = mI MC x := ⟨h.1.TC (itM_TC hR.1 hso), fun x hx => ((h.2 x (by omega)).1).trans (itM_I MC (by omega))⟩
theorem rd_R {MC MR C : xM} {L : Nat} (hR : Rel MC MR) (h : RFm (ftM MR L) C) : TR C ∧ mI C 0 7 = mI MR 0 7 ∧ mI C 0 6 = mI MR 0 6 := ⟨h.1.TR ((sT_ftM MR L).TR hR.2.1), (h.2.2.2.2.2.1 7 (by decide) (by decide) (by decide) (by decide)).trans (ftM_0 MR L (by decide)), (h.2.2.2.2.2.1 6 (by decide) (by decide) (by decide) (by decide)).trans (ftM_0 MR L (by decide))⟩
theorem rd_Rel {MC MR A C : xM} {L so q : Nat} (hR : Rel MC MR) (hso : so = 2 ∨ so = 4) (hA : CF (itM MC so q) A) (hC : RFm (ftM MR L) C) : Rel A C ∧ ∀ κ ζ t, t < 12 → RelT MC MR κ ζ t → RelT A C κ ζ t := by
  have h1 := Rel_rdC hR hso hA
  have h2 := Rel_ft h1.1 L
  have h3 := Rel_rdR h2.1 hC
  exact ⟨h3.1, fun κ ζ t ht q => h3.2 κ ζ t ht (h2.2 κ ζ t (h1.2 κ ζ t q))⟩
theorem fc_skip : Fc_skip Rel := by
  intro MC MR hR
  obtain ⟨L, p, l1, l2, l3, l4, l5, l6, -⟩ := RelB_len hR
  obtain ⟨s1, s2, s3⟩ := tp_S hR l4 l1
  have hti := sp_ti (d := 199) (by decide) hR.1 (s2 p) l2
  have hri := sp_ri (d := 199) (by decide) s1 (hR.2.2.1.k (ftM_I MR L (by decide) (by decide))) l2
  cases e : pItem (tpB MR) L p with
  | error f =>
    rw [e] at hti hri
    have hf := pItem_e e l2
    refine fcX2 (sp_X5_skip_f (d := 200) (P := fun A => CF (itM MC 2 p) A ∧ mI A 8 3 = nI f) (by decide) hR.1 l5 hti (fun A h => ⟨(rd_C hR (Or.inl rfl) h.1).1, h.2⟩)) (sp_X6_skip_f (d := 200) (P := fun C => RFm (ftM MR L) C ∧ mI C 0 25 = nI f) (by decide) hR.2.1 l4 l1 l6 hri (by omega) (fun C h => ⟨(rd_R hR h.1).1, h.2⟩)) rfl ?_
    rintro B D ⟨A, hA, rfl⟩ ⟨C, hC, rfl⟩
    exact Rel_tells (rd_Rel hR (Or.inl rfl) hA.1 hC.1).1 _ _
  | ok pr =>
    rw [e] at hti hri
    obtain ⟨-, hq⟩ := pItem_ok s3 e
    refine fcX2 (sp_X5_skip_k (d := 200) (P := fun A => CS (itM MC 2 p) pr.1 pr.2 A) (by decide) hR.1 l5 hti (fun A h => ⟨(rd_C hR (Or.inl rfl) h.1).1, h.2.2.1, (congrFun ((rd_C hR (Or.inl rfl) h.1).2 0 (Or.inl rfl)) 10).trans l5⟩)) (sp_X6_skip_k (d := 200) (P := fun C => RFm (ftM MR L) C ∧ mI C 0 25 = -1 ∧ RSr pr.2 C ∧ (rK pr.2 0 < 14 → mI C 0 26 = nI pr.2.1)) (by decide) hR.2.1 l4 l1 l6 hri (fun C h => ⟨(rd_R hR h.1).1, h.2.1, ((rd_R hR h.1).2.1).trans l6⟩)) rfl ?_
    rintro B D ⟨A, hA, rfl⟩ ⟨C, hC, rfl⟩
    exact Rel_tells (Rel_pos (rd_Rel hR (Or.inl rfl) hA.1 hC.1).1 (((rd_R hR hC.1).2.2).trans l4) l1 hq) _ _
