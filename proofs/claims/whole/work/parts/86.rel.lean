-- THE RELATION OF THE TWO MEMORIES
/-- a kind as the memories hold it; 16: nothing stands there -/
def kdI (k : Nat) : Int32 := if k < 16 then nI k else -1
/-- a number of a kind, as both hold it -/
def okN (k : Nat) (v : Int64) : Prop := sX6_isNumber (nI k) v = true ∧ (k = 6 ∨ k = 7 → okF k v)
/-- a cell of a row of kind k: what and value -/
def okC (κ : Nat → Nat) (k w : Nat) (v : Int64) : Prop :=
  w < 12 ∧ (k < 8 → w = k) ∧ (k = 8 → w = 4 ∨ w = 11) ∧ (k = 9 → w = 8 ∨ w = 11) ∧ (k = 10 → w = 9 ∨ w = 11) ∧ (k = 11 → (w = 9 ∧ 3 ≤ v) ∨ w = 11) ∧ (k = 13 → w = 10 ∨ w = 11) ∧
  (w < 8 → okN w v) ∧ (w = 8 → wrd v = true) ∧ (w = 9 → ∃ b, b < 6 ∧ v = lN b) ∧ (w = 10 → ∃ u, u < 12 ∧ v = lN u ∧ κ u < 14 ∧ (k = 13 → κ u = 4)) ∧ (w = 11 → v = 0)
def okT (k : Nat) (v : Int64) : Prop := (k = 14 → ∃ b, b < 6 ∧ v = lN b) ∧ (k = 15 → wrd v = true)
def RelT (MC MR : xM) (κ ζ : Nat → Nat) (t : Nat) : Prop :=
  κ t ≤ 16 ∧ ζ t ≤ 12 ∧ mI MC (54 + 3 * t) 0 = kdI (κ t) ∧ mI MR 1 t = kdI (κ t) ∧ mI MC (54 + 3 * t) 1 = nI (ζ t) ∧ (κ t < 16 → mI MR 2 t = nI (ζ t)) ∧ (14 ≤ κ t → ζ t = 0) ∧
  (14 ≤ κ t → κ t < 16 → mL MC (54 + 3 * t + 2) 0 = mL MR 3 t ∧ okT (κ t) (mL MR 3 t)) ∧
  (∀ i, i < ζ t → mI MC (54 + 3 * t + 1) i = mI MR 4 (12 * t + i) ∧ mL MC (54 + 3 * t + 2) i = mL MR 5 (12 * t + i) ∧ ∃ w, mI MR 4 (12 * t + i) = nI w ∧ okC κ (κ t) w (mL MR 5 (12 * t + i)))
def RelS (MC MR : xM) : Prop := ∃ κ ζ : Nat → Nat, ∀ t, t < 12 → RelT MC MR κ ζ t
def RelB (MC MR : xM) : Prop := ∃ len pos : Nat, len ≤ 200 ∧ pos ≤ len ∧ mI MC 2 1 = nI len ∧ mI MR 0 6 = nI len ∧ mI MC 0 10 = nI pos ∧ mI MR 0 7 = nI pos ∧ ∀ i, i < len → ∃ b, b < 256 ∧ mI MC 3 i = nI b ∧ mI MR 6 i = nI b
def RelO (MC MR : xM) : Prop := (∃ m, m < 3 ∧ mI MC 0 11 = nI m ∧ mI MR 0 8 = nI m) ∧ mI MC 0 12 = mI MR 0 9 ∧ mI MC 0 13 = mI MR 0 10 ∧ (∀ k, k < 5 → mI MC 53 k = mI MR 7 k) ∧ (∀ k, k < 16 → mL MR 18 k = tNAMES.getD k 0)
def Rel (MC MR : xM) : Prop := TC MC ∧ TR MR ∧ LenR MR ∧ RelS MC MR ∧ RelB MC MR ∧ RelO MC MR
theorem Rel_top : ∀ MC MR, Rel MC MR → mS MC 0 = (0, 4) ∧ 0 < mN MC ∧ mS MR 0 = (0, 5) ∧ 0 < mN MR := fun MC MR h => ⟨h.1.s 0 (by decide), h.1.n 0 (by decide), h.2.1.s 0 (by decide), h.2.1.n 0 (by decide)⟩
-- faces out of contracts
theorem fcI {F G : xF} {as : List Value} {MC MR MC' MR' : xM} {x y : Int32} (h1 : Sp F as MC (dt (some (.int x)) MC')) (h2 : Sp G as MR (dt (some (.int y)) MR')) (e : x = y) (hR : Rel MC' MR') : ∃ (ρ : Int32) (QC QR : xM → Prop), Sp F as MC (fun r M' => r = some (.int ρ) ∧ QC M') ∧ Sp G as MR (fun r M' => r = some (.int ρ) ∧ QR M') ∧ ∀ A B, QC A → QR B → Rel A B := by
  subst e
  exact ⟨x, (fun M => M = MC'), (fun M => M = MR'), h1, h2, fun A B ha hb => by rw [ha, hb]; exact hR⟩
theorem fcL {F G : xF} {as : List Value} {MC MR MC' MR' : xM} {x y : Int64} (h1 : Sp F as MC (dt (some (.long x)) MC')) (h2 : Sp G as MR (dt (some (.long y)) MR')) (e : x = y) (hR : Rel MC' MR') : ∃ (ρ : Int64) (QC QR : xM → Prop), Sp F as MC (fun r M' => r = some (.long ρ) ∧ QC M') ∧ Sp G as MR (fun r M' => r = some (.long ρ) ∧ QR M') ∧ ∀ A B, QC A → QR B → Rel A B := by
  subst e
  exact ⟨x, (fun M => M = MC'), (fun M => M = MR'), h1, h2, fun A B ha hb => by rw [ha, hb]; exact hR⟩
-- slots' numbers
theorem thing_iff (x : Int32) : sX6_isThing x.toInt64 = sX5_isSlot x.toInt64 := by
  unfold sX6_isThing sX6_isIn sX5_isSlot
  by_cases h1 : x.toInt64 < 0
  · rw [if_pos h1, if_pos h1]
  · rw [if_neg h1, if_neg h1]
    by_cases h2 : 11 < x.toInt64
    · have h3 : 12 ≤ x.toInt64 := by
        have := Int64.lt_iff_toInt_lt.mp h2
        have e : (11 : Int64).toInt = 11 := rfl
        apply Int64.le_iff_toInt_le.mpr
        have e2 : (12 : Int64).toInt = 12 := rfl
        omega
      rw [if_pos h2, if_pos h3]
    · have h3 : ¬ 12 ≤ x.toInt64 := by
        intro h
        apply h2
        have := Int64.le_iff_toInt_le.mp h
        have e : (11 : Int64).toInt = 11 := rfl
        have e2 : (12 : Int64).toInt = 12 := rfl
        apply Int64.lt_iff_toInt_lt.mpr
        omega
      rw [if_neg h2, if_neg h3]
theorem slot_cases (x : Int32) : (sX5_isSlot x.toInt64 = false ∧ sX6_isThing x.toInt64 = false) ∨ ∃ t, t < 12 ∧ x = nI t ∧ sX5_isSlot x.toInt64 = true ∧ sX6_isThing x.toInt64 = true := by
  cases h : sX5_isSlot x.toInt64 with
  | false => exact Or.inl ⟨rfl, (thing_iff x).trans h⟩
  | true =>
    have hv : vp_in x 12 := slot_vp (by rw [h]; decide)
    obtain ⟨e, b⟩ := nI_cl hv
    exact Or.inr ⟨_, b, e, rfl, (thing_iff x).trans h⟩
theorem kdI_16 : kdI 16 = -1 := rfl
theorem kdI_lt {k : Nat} (h : k < 16) : kdI k = nI k := if_pos h
theorem kdI_n (k : Nat) (h : k ≤ 16) : k = 16 ∨ (k < 16 ∧ kdI k = nI k) := by
  rcases Nat.lt_or_ge k 16 with q | q
  · exact Or.inr ⟨q, kdI_lt q⟩
  · exact Or.inl (by omega)
theorem kdI_dec : ∀ k, k < 16 → ¬ nI k = (-1 : Int32) ∧ (0 : Int32) ≤ nI k ∧ ((nI k ≤ (13 : Int32)) ↔ k < 14) ∧ ((8 : Int32) ≤ nI k ↔ 8 ≤ k) := by decide
def eS (k : Nat) : Int32 := if k = 16 then -5 else 0
def eA (k : Nat) : Int32 := if k = 16 then -5 else if 14 ≤ k then -6 else 0
theorem slotE_of {MC MR : xM} {κ ζ : Nat → Nat} {t : Nat} (ht : t < 12) (h : RelT MC MR κ ζ t) (hs : sX5_isSlot (nI t).toInt64 = true) : sX5_slotError MC (nI t) = eS (κ t) := by
  obtain ⟨h1, h2, h3, -⟩ := h
  unfold sX5_slotError sX2_isEmpty eS
  rw [hs, nI_clamp (by omega), h3]
  rcases kdI_n _ h1 with e | ⟨q, e⟩
  · rw [e]; rfl
  · have hd := kdI_dec _ q
    rw [e, if_neg (show ¬ κ t = 16 by omega)]
    simp [bz, hd.1]
theorem arrayE_of {MC MR : xM} {κ ζ : Nat → Nat} {t : Nat} (ht : t < 12) (h : RelT MC MR κ ζ t) (hs : sX5_isSlot (nI t).toInt64 = true) : sX5_arrayError MC (nI t) = eA (κ t) := by
  have e0 := slotE_of ht h hs
  obtain ⟨h1, h2, h3, -⟩ := h
  unfold sX5_arrayError sX2_isArray eA
  rw [e0, nI_clamp (by omega), h3]
  unfold eS
  rcases kdI_n _ h1 with e | ⟨q, e⟩
  · rw [e]; rfl
  · have hd := kdI_dec _ q
    rw [e, if_neg (show ¬ κ t = 16 by omega), if_neg (show ¬ κ t = 16 by omega), if_pos rfl]
    by_cases c : 14 ≤ κ t
    · rw [if_pos c]
      have c2 : ¬ nI (κ t) ≤ (13 : Int32) := fun z => absurd (hd.2.2.1.mp z) (by omega)
      simp [bz, hd.2.1, c2]
    · rw [if_neg c]
      have c2 : nI (κ t) ≤ (13 : Int32) := hd.2.2.1.mpr (by omega)
      simp [bz, hd.2.1, c2]
theorem refusal_of {MC MR : xM} {κ ζ : Nat → Nat} {t : Nat} (ht : t < 12) (h : RelT MC MR κ ζ t) : sX6_refusal MR (nI t) = eA (κ t) := by
  obtain ⟨h1, h2, h3, h4, -⟩ := h
  unfold sX6_refusal eA
  rw [nI_clamp (by omega), h4]
  rcases kdI_n _ h1 with e | ⟨q, e⟩
  · rw [e]; rfl
  · have hd := kdI_dec _ q
    rw [e, if_pos hd.2.1, if_neg (show ¬ κ t = 16 by omega)]
    by_cases c : 14 ≤ κ t
    · rw [if_pos c, if_neg (fun z => absurd (hd.2.2.1.mp z) (by omega))]
    · rw [if_neg c, if_pos (hd.2.2.1.mpr (by omega))]
theorem fc_kind : Fc_kind Rel := by
  intro a0 MC MR hR
  refine fcI (sp_X5_kind (by decide) a0 hR.1) (sp_X6_kind (by decide) a0 hR.2.1) ?_ hR
  obtain ⟨hT, -, -, ⟨κ, ζ, hS⟩, -⟩ := hR
  rcases slot_cases a0 with ⟨s1, s2⟩ | ⟨t, ht, rfl, s1, s2⟩
  · unfold sX5_kind sX6_kind sX5_slotError
    rw [s1, s2]
    rfl
  · have e := slotE_of ht (hS t ht) s1
    obtain ⟨h1, h2, h3, h4, -⟩ := hS t ht
    unfold sX5_kind sX6_kind
    rw [e, s2, nI_clamp (by omega), h3, h4]
    unfold eS
    rcases kdI_n _ h1 with e | ⟨q, e⟩
    · rw [e]; rfl
    · have hd := kdI_dec _ q
      rw [e, if_neg (show ¬ κ t = 16 by omega), if_pos rfl, if_neg (by decide), if_pos hd.2.1]
theorem fc_size : Fc_size Rel := by
  intro a0 MC MR hR
  refine fcI (sp_X5_size (by decide) a0 hR.1) (sp_X6_size (by decide) a0 hR.2.1) ?_ hR
  obtain ⟨hT, -, -, ⟨κ, ζ, hS⟩, -⟩ := hR
  rcases slot_cases a0 with ⟨s1, s2⟩ | ⟨t, ht, rfl, s1, s2⟩
  · unfold sX5_size sX6_size sX5_arrayError sX5_slotError
    rw [s1, s2]
    rfl
  · have e := arrayE_of ht (hS t ht) s1
    have e2 := refusal_of ht (hS t ht)
    obtain ⟨h1, h2, h3, h4, h5, h6, -⟩ := hS t ht
    unfold sX5_size sX6_size
    rw [e, e2, s2, nI_clamp (by omega), h5]
    unfold eA
    by_cases c1 : κ t = 16
    · rw [if_pos c1]; rfl
    · rw [if_neg c1]
      by_cases c2 : 14 ≤ κ t
      · rw [if_pos c2]; rfl
      · rw [if_neg c2, if_pos rfl, if_neg (by decide), if_pos (by decide), h6 (by omega)]
theorem fc_went : Fc_went Rel := by
  intro a0 MC MR hR
  refine fcI (sp_X5_went (by decide) a0 hR.1) (sp_X6_went (by decide) a0 hR.2.1) ?_ hR
  obtain ⟨-, -, -, -, -, ⟨-, h1, h2, -⟩⟩ := hR
  unfold sX5_went sX6_went
  rw [h1, h2]
  by_cases c0 : a0 = 0
  · subst c0; rfl
  · by_cases c1 : a0 = 1
    · subst c1; rfl
    · by_cases c2 : a0 < 0
      · rw [if_pos c2, if_neg c0, if_neg c1]
      · rw [if_neg c2]
        by_cases c3 : a0 ≤ 1
        · exfalso
          have b0 : ¬ a0.toInt = 0 := fun z => c0 (Int32.toInt_inj.mp (z.trans rfl))
          have b1 : ¬ a0.toInt = 1 := fun z => c1 (Int32.toInt_inj.mp (z.trans rfl))
          have b2 : ¬ a0.toInt < (0 : Int) := fun z => c2 (Int32.lt_iff_toInt_lt.mpr z)
          have b3 : a0.toInt ≤ (1 : Int) := Int32.le_iff_toInt_le.mp c3
          omega
        · rw [if_neg c3, if_neg c0, if_neg c1]
