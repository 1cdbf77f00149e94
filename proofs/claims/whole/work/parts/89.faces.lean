-- FACES: questions
theorem lsd_congr {p q : Nat → Bool} {x : Int32} : ∀ (n i : Nat), (∀ j, i ≤ j → j < i + n → p j = q j) → lsd p x n i = lsd q x n i
  | 0, _, _ => rfl
  | n + 1, i, h => by
    show (if p i = true then nI i else lsd p x n (i + 1)) = (if q i = true then nI i else lsd q x n (i + 1))
    rw [h i (by omega) (by omega), lsd_congr n (i + 1) (fun j h1 h2 => h j (by omega) (by omega))]
theorem lst_congr {p q : Nat → Bool} : ∀ (n i : Nat), (∀ j, i ≤ j → j < i + n → p j = q j) → lst p n i = lst q n i
  | 0, _, _ => rfl
  | n + 1, i, h => by
    show (if p i = true then nI i else lst p n (i + 1)) = (if q i = true then nI i else lst q n (i + 1))
    rw [h i (by omega) (by omega), lst_congr n (i + 1) (fun j h1 h2 => h j (by omega) (by omega))]
theorem cnt_congr {p q : Nat → Bool} : ∀ (n i k : Nat), (∀ j, i ≤ j → j < i + n → p j = q j) → cnt p n i k = cnt q n i k
  | 0, _, _, _ => rfl
  | n + 1, i, k, h => by
    show cnt p n (i + 1) (if p i = true then k + 1 else k) = cnt q n (i + 1) (if q i = true then k + 1 else k)
    rw [h i (by omega) (by omega), cnt_congr n (i + 1) _ (fun j h1 h2 => h j (by omega) (by omega))]
theorem Rel.tapC {MC MR : xM} (h : RelB MC MR) : StrL MC 2 200 := by
  obtain ⟨len, pos, b1, b2, b3, -⟩ := h
  exact ⟨len, b1, by decide, b3⟩
theorem Rel.tapR {MC MR : xM} (h : RelB MC MR) : TapR MR := by
  obtain ⟨len, pos, b1, b2, b3, b4, -⟩ := h
  exact ⟨len, b1, b4⟩
theorem RelS.knC {MC MR : xM} (h : RelS MC MR) : KnC MC := by
  obtain ⟨κ, ζ, hS⟩ := h
  intro t ht
  obtain ⟨h1, -, h3, -⟩ := hS t ht
  rcases kdI_n _ h1 with e | ⟨q, e⟩
  · exact Or.inl (by rw [h3, e]; rfl)
  · exact Or.inr ⟨_, q, by rw [h3, e]⟩
theorem RelS.knR {MC MR : xM} (h : RelS MC MR) : KnR MR := by
  obtain ⟨κ, ζ, hS⟩ := h
  intro t ht
  obtain ⟨h1, -, -, h3, -⟩ := hS t ht
  rcases kdI_n _ h1 with e | ⟨q, e⟩
  · exact Or.inl (by rw [h3, e]; rfl)
  · exact Or.inr ⟨_, q, by rw [h3, e]⟩
theorem RelS.lnC {MC MR : xM} (h : RelS MC MR) : LnC MC := by
  obtain ⟨κ, ζ, hS⟩ := h
  intro t ht
  obtain ⟨-, h2, -, -, h5, -⟩ := hS t ht
  exact ⟨_, h2, h5⟩
theorem RelS.emp {MC MR : xM} (h : RelS MC MR) : ∀ t, t < 12 → cEmp MC t = rEmp MR t := by
  obtain ⟨κ, ζ, hS⟩ := h
  intro t ht
  obtain ⟨h1, h2, h3, h4, -⟩ := hS t ht
  unfold cEmp rEmp sX2_isEmpty
  rw [h3, h4]
  rcases kdI_n _ h1 with e | ⟨q, e⟩
  · rw [e]; rfl
  · have hd := kdI_dec _ q
    rw [e, if_neg hd.1, decide_eq_false (Int32.not_lt.mpr hd.2.1)]
theorem fc_tape : Fc_tape Rel := by
  intro a0 MC MR hR
  refine fcI (sp_X5_tape (by decide) a0 hR.1 (Rel.tapC hR.2.2.2.2.1)) (sp_X6_tape (by decide) a0 hR.2.1 (Rel.tapR hR.2.2.2.2.1)) ?_ hR
  obtain ⟨-, -, -, -, ⟨len, pos, b1, b2, b3, b4, b5, b6, b7⟩, -⟩ := hR
  unfold sX5_tape sX3_has sX3_at sX6_tape
  rw [b3, b4]
  by_cases c1 : a0 < 0
  · rw [if_pos c1, if_pos c1, if_pos c1]; rfl
  · rw [if_neg c1, if_neg c1, if_neg c1]
    by_cases c2 : nI len ≤ a0
    · rw [if_pos c2, if_pos c2, if_pos c2]; rfl
    · rw [if_neg c2, if_neg c2, if_neg c2, if_neg (by decide)]
      have hv : vp_in a0 len := by
        have g1 : ¬ a0.toInt < (0 : Int) := fun z => c1 (Int32.lt_iff_toInt_lt.mpr z)
        have g2 : ¬ (nI len).toInt ≤ a0.toInt := fun z => c2 (Int32.le_iff_toInt_le.mpr z)
        rw [nI_toInt (by omega)] at g2
        rw [vp_in_iff]; omega
      obtain ⟨b, hb, e1, e2⟩ := b7 _ (vp_lt hv)
      rw [e2]
      exact e1
theorem fc_named : Fc_named Rel := by
  intro a0 MC MR hR
  refine fcI (sp_X5_named (by decide) a0 hR.1) (sp_X6_named (by decide) a0 hR.2.1) ?_ hR
  obtain ⟨-, -, -, -, -, ⟨-, -, -, -, o4⟩⟩ := hR
  unfold sX5_named sX6_named knm
  rw [lsd_congr 16 0 (q := nmR MR a0) (fun j h1 h2 => by show decide _ = decide _; rw [o4 j (by omega)])]
theorem fc_called : Fc_called Rel := by
  intro a0 MC MR hR
  refine fcL (sp_X5_called (by decide) a0 hR.1 hR.2.2.2.1.knC) (sp_X6_called (by decide) a0 hR.2.1 hR.2.2.2.1.knR) ?_ hR
  obtain ⟨-, -, -, ⟨κ, ζ, hS⟩, -, ⟨-, -, -, -, o4⟩⟩ := hR
  rcases slot_cases a0 with ⟨s1, s2⟩ | ⟨t, ht, rfl, s1, s2⟩
  · unfold sX5_called sX6_called sX5_slotError
    rw [s1, s2]
    rfl
  · have e := slotE_of ht (hS t ht) s1
    obtain ⟨h1, h2, h3, h4, -⟩ := hS t ht
    unfold sX5_called sX6_called
    rw [e, s2, nI_clamp (by omega), h3, h4]
    unfold eS
    rcases kdI_n _ h1 with e | ⟨q, e⟩
    · rw [e]; rfl
    · have hd := kdI_dec _ q
      rw [e, if_neg (show ¬ κ t = 16 by omega), if_pos rfl, if_neg (by decide), if_neg (Int32.not_lt.mpr hd.2.1), nI_clamp (by omega), o4 _ q]
theorem fc_count : Fc_count Rel := by
  intro a0 MC MR hR
  refine fcI (sp_X5_count (by decide) a0 hR.1) (sp_X6_count (by decide) a0 hR.2.1) ?_ hR
  have hE := hR.2.2.2.1.emp
  obtain ⟨-, -, -, -, ⟨len, pos, b1, b2, b3, b4, b5, b6, b7⟩, ⟨⟨m, hm, m1, m2⟩, o1, o2, o3, o4⟩⟩ := hR
  have hF : sX5_filledSlots MC = sX6_things MR := by
    unfold sX5_filledSlots sX6_things
    rw [cnt_congr 12 0 0 (q := fun t => !rEmp MR t) (fun j h1 h2 => by show (!cEmp MC j) = (!rEmp MR j); rw [hE j (by omega)])]
  unfold sX5_count sX6_count
  rw [hF, b3, b4, b5, b6, m1, m2]
  by_cases c0 : a0 = 0
  · subst c0; rfl
  by_cases c1 : a0 = 1
  · subst c1; rfl
  by_cases c2 : a0 = 2
  · subst c2; rfl
  by_cases c3 : a0 = 3
  · subst c3; rfl
  rw [if_neg c0, if_neg c1, if_neg c2, if_neg c3, if_neg c0, if_neg c1, if_neg c2, if_neg c3]
  have d0 : ¬ a0.toInt = 0 := fun z => c0 (Int32.toInt_inj.mp (z.trans rfl))
  have d1 : ¬ a0.toInt = 1 := fun z => c1 (Int32.toInt_inj.mp (z.trans rfl))
  have d2 : ¬ a0.toInt = 2 := fun z => c2 (Int32.toInt_inj.mp (z.trans rfl))
  have d3 : ¬ a0.toInt = 3 := fun z => c3 (Int32.toInt_inj.mp (z.trans rfl))
  have e4 : (4 : Int64).toInt = 4 := rfl
  have e8 : (8 : Int64).toInt = 8 := rfl
  have f8 : (8 : Int32).toInt = 8 := rfl
  have f0 : (0 : Int32).toInt = 0 := rfl
  unfold sX6_isIn
  by_cases c4 : a0 < 0
  · have g := Int32.lt_iff_toInt_lt.mp c4
    have d4 : a0.toInt64 < 4 := Int64.lt_iff_toInt_lt.mpr (by rw [Int32.toInt_toInt64]; omega)
    rw [if_pos c4, if_pos d4]; rfl
  · have g : ¬ a0.toInt < 0 := fun z => c4 (Int32.lt_iff_toInt_lt.mpr z)
    have d4 : ¬ a0.toInt64 < 4 := fun z => by have := Int64.lt_iff_toInt_lt.mp z; rw [Int32.toInt_toInt64] at this; omega
    rw [if_neg c4, if_neg d4]
    by_cases c5 : a0 ≤ 8
    · have g5 := Int32.le_iff_toInt_le.mp c5
      have d5 : ¬ 8 < a0.toInt64 := fun z => by have := Int64.lt_iff_toInt_lt.mp z; rw [Int32.toInt_toInt64] at this; omega
      rw [if_pos c5, if_neg d5, if_neg (by decide)]
      have hv : vp_in (a0 - 4) 5 := by
        have e : (4 : Int32).toInt = 4 := rfl
        rw [vp_in_iff, Int32.toInt_sub, e, Int.bmod_eq_of_le (by omega) (by omega)]
        omega
      exact o3 _ (vp_lt hv)
    · have g5 : ¬ a0.toInt ≤ 8 := fun z => c5 (Int32.le_iff_toInt_le.mpr z)
      have d5 : 8 < a0.toInt64 := Int64.lt_iff_toInt_lt.mpr (by rw [Int32.toInt_toInt64]; omega)
      rw [if_neg c5, if_pos d5]; rfl
