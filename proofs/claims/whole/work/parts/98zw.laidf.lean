-- LAID: the face
theorem mode_cases (a0 : Int32) : (sX5_isMode a0 = false ∧ sX6_isIn a0.toInt64 0 2 = false) ∨ ∃ m, m < 3 ∧ a0 = nI m ∧ sX5_isMode a0 = true ∧ sX6_isIn a0.toInt64 0 2 = true := by
  unfold sX5_isMode sX6_isIn
  have e0 : (0 : Int64).toInt = 0 := rfl
  have e2 : (2 : Int64).toInt = 2 := rfl
  have f2 : (2 : Int32).toInt = 2 := rfl
  have f0 : (0 : Int32).toInt = 0 := rfl
  by_cases c1 : a0 < 0
  · have d1 : a0.toInt64 < 0 := Int64.lt_iff_toInt_lt.mpr (by have := Int32.lt_iff_toInt_lt.mp c1; rw [Int32.toInt_toInt64]; omega)
    rw [if_pos c1, if_pos d1]
    exact Or.inl ⟨rfl, rfl⟩
  · have d1 : ¬ a0.toInt64 < 0 := fun z => c1 (Int32.lt_iff_toInt_lt.mpr (by have := Int64.lt_iff_toInt_lt.mp z; rw [Int32.toInt_toInt64] at this; omega))
    rw [if_neg c1, if_neg d1]
    by_cases c2 : 2 < a0
    · have d2 : 2 < a0.toInt64 := Int64.lt_iff_toInt_lt.mpr (by have := Int32.lt_iff_toInt_lt.mp c2; rw [Int32.toInt_toInt64]; omega)
      rw [if_pos c2, if_pos d2]
      exact Or.inl ⟨rfl, rfl⟩
    · have d2 : ¬ 2 < a0.toInt64 := fun z => c2 (Int32.lt_iff_toInt_lt.mpr (by have := Int64.lt_iff_toInt_lt.mp z; rw [Int32.toInt_toInt64] at this; omega))
      rw [if_neg c2, if_neg d2]
      have hv : vp_in a0 3 := by
        rw [vp_in_iff]
        have g1 : ¬ a0.toInt < (0 : Int) := fun z => c1 (Int32.lt_iff_toInt_lt.mpr z)
        have g2 : ¬ (2 : Int) < a0.toInt := fun z => c2 (Int32.lt_iff_toInt_lt.mpr z)
        omega
      obtain ⟨q1, q2⟩ := nI_cl hv
      exact Or.inr ⟨_, q2, q1, rfl, rfl⟩
theorem wr_I (M : xM) {w so m x : Nat} (ms : List Nat) (l : List Int32) (h1 : x ≠ so) (h2 : x ≠ so + 1) (h3 : x ≠ w) (h4 : x ≠ w + 1) : mI (emM (nuM (wrM M w so m) w ms) so 1 (so + 1) l) x = mI M x := by
  rw [emM_I _ _ h1 h2, nuM_I _ _ h3 h4, wrM_I _ _ h1 h3 h4]
theorem Rel_wrC {MC MR : xM} (hR : Rel MC MR) {w so m : Nat} (h : (w = 46 ∧ so = 4) ∨ (w = 48 ∧ so = 6) ∨ (w = 50 ∧ so = 6)) (ms : List Nat) (l : List Int32) : Rel (emM (nuM (wrM MC w so m) w ms) so 1 (so + 1) l) MR := by
  refine Rel_scrC hR ⟨rfl, rfl, rfl⟩ (fun a ha => wr_I MC ms l (by omega) (by omega) (by omega) (by omega)) (fun k _ => congrFun (wr_I MC ms l (by omega) (by omega) (by omega) (by omega)) k) rfl
theorem Rel_laR {MC MR R : xM} (hR : Rel MC MR) {o : Nat} {ms : List Nat} (h : LR MR o ms [] R) (l : List Int32) : Rel MC (emM R 0 13 8 l) ∧ ∀ κ ζ t, RelT MC MR κ ζ t → RelT MC (emM R 0 13 8 l) κ ζ t := by
  obtain ⟨h1, h2, h3, h4, -⟩ := h
  refine Rel_scr hR (sT.tr h1 (sT_emM _ _ _ _ _)) (fun a a1 a2 => ?_) (fun a _ => ?_) (fun k k1 k2 => ?_)
  · rw [emM_I _ _ (by omega) (by omega)]
    exact h3 a (by omega) (by omega) (by omega) (by omega) (by omega) (by omega)
  · rw [emM_L, h2]
  · rw [emM_a _ _ (by omega) (by decide)]
    exact h4 k (by omega) (by omega) (by omega)
theorem sl_15 {MC MR : xM} {κ ζ : Nat → Nat} {t : Nat} (h : RelT MC MR κ ζ t) (h15 : κ t = 15) : ∃ c, 0 < c ∧ c < 27 ^ 7 ∧ slV MR κ t 0 = lN c := by
  have q := (h.2.2.2.2.2.2.2.1 (by omega) (by omega)).2.2 h15
  rw [show slV MR κ t 0 = mL MR 3 t from if_pos (by omega)]
  exact wrd_c q
theorem sl_15' {MC MR : xM} {κ ζ : Nat → Nat} {t : Nat} (h : RelT MC MR κ ζ t) (h15 : κ t = 15) : ∃ c, c < 2 ^ 63 ∧ slV MR κ t 0 = lN c := by
  obtain ⟨c, -, c2, c3⟩ := sl_15 h h15
  exact ⟨c, Nat.lt_trans c2 (by decide), c3⟩
theorem sp_laS {d : Nat} (hd : 21 ≤ d) {MC MR : xM} (hR : Rel MC MR) {κ ζ : Nat → Nat} (hS : ∀ t, t < 12 → RelT MC MR κ ζ t) {m t : Nat} (hm : m < 3) (ht : t < 12) (hk : κ t < 16) : Sp (fX6_laysAll d) [.ref 0, .int (nI t), .int (nI m)] MR (fun r A => r = some (.int (nI (itR m κ ζ (slW MR) (slV MR κ) t).1.length)) ∧ ∃ R, LR MR 0 (itR m κ ζ (slW MR) (slV MR κ) t).2 [] R ∧ A = emM R 0 13 8 (itR m κ ζ (slW MR) (slV MR κ) t).1) := by
  have q := sp_la (d := d) hd (RfD_of hR hS) hm ht hk (by rw [Nat.zero_add, (hS t ht).2.2.2.1, kdI_lt hk]) (fun h => by rw [Nat.zero_add]; exact (if_pos h).symm) (sl_15 (hS t ht))
  rw [Nat.zero_add] at q
  exact q
theorem slotBad {M : xM} {x : Int32} (h : sX5_isSlot x.toInt64 = false) : sX5_slotError M x = -1 := by
  unfold sX5_slotError
  rw [h]; rfl
theorem fc_laid : Fc_laid Rel := by
  intro a0 a1 MC MR hR
  rcases slot_cases a0 with ⟨s1, s2⟩ | ⟨t, ht, rfl, s1, s2⟩
  · have h2 := sp_X6_laid_bad1 (d := 200) (by decide) a0 a1 hR.2.1 s2
    rcases mode_cases a1 with ⟨m1, m2⟩ | ⟨m, -, -, m1, m2⟩
    · exact fcI (sp_X5_laid_bad (d := 200) (by decide) a0 a1 hR.1 m1) h2 rfl hR
    · exact fcI (sp_X5_laid_e (d := 200) (by decide) a0 a1 hR.1 m1 (by rw [slotBad s1]; decide)) h2 (slotBad s1) hR
  · rcases mode_cases a1 with ⟨m1, m2⟩ | ⟨m, hm, rfl, m1, m2⟩
    · exact fcI (sp_X5_laid_bad (d := 200) (by decide) _ a1 hR.1 m1) (sp_X6_laid_bad2 (d := 200) (by decide) _ a1 hR.2.1 s2 m2) rfl hR
    · obtain ⟨κ, ζ, hS⟩ := hR.2.2.2.1
      have hr := hS t ht
      have e0 := slotE_of ht hr s1
      rw [nIL (by omega)] at s2 m2
      by_cases c : κ t = 16
      · have e1 : sX5_slotError MC (nI t) = -5 := by rw [e0, c]; rfl
        refine fcI (sp_X5_laid_e (d := 200) (by decide) _ _ hR.1 m1 (by rw [e1]; decide)) (sp_X6_laid_e (d := 200) (by decide) t (nI m) hR.2.1 ht s2 (by rw [nIL (by omega)]; exact m2) (by rw [hr.2.2.2.1, c]; rfl)) e1 hR
      · have hk : κ t < 16 := by have := hr.1; omega
        have e1 : sX5_slotError MC (nI t) = 0 := by rw [e0]; exact if_neg c
        refine fcX (sp_X5_laid_ok (d := 200) (by decide) t m hR.1 m1 e1 (WrR_of hR hS (Or.inl ⟨rfl, rfl⟩)) hm ht hk (sl_15' hr)) (sp_X6_laid_ok (d := 200) (by decide) t m hR.2.1 ht hm s2 m2 hk (by rw [hr.2.2.2.1, kdI_lt hk]) (sp_laS (by decide) hR hS hm ht hk)) rfl ?_
        rintro B ⟨R, hL, rfl⟩
        exact (Rel_laR (Rel_wrC hR (Or.inl ⟨rfl, rfl⟩) _ _) hL _).1
