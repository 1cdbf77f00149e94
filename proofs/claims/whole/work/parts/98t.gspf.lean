-- GET, SET, PUT: faces
theorem hbt : ¬ bz true = 0 := by decide
theorem hbf : bz false = 0 := rfl
theorem nI_of_lN {x : Int32} {b : Nat} (hb : b < 100000) (h : x.toInt64 = lN b) : x = nI b := by
  apply Int32.toInt_inj.mp
  have := congrArg Int64.toInt h
  rw [Int32.toInt_toInt64, pk_lT (by omega)] at this
  rw [this, nI_toInt (by omega)]
theorem kind_cases (x : Int32) : (sX0_isKind x = false ∧ sX6_isIn x.toInt64 0 7 = false) ∨ ∃ k, k < 8 ∧ x = nI k ∧ sX0_isKind x = true ∧ sX6_isIn x.toInt64 0 7 = true := by
  cases h : sX6_isIn x.toInt64 0 7 with
  | true =>
    obtain ⟨b, b1, b2⟩ := inN (n := 7) (by decide) h
    have e := nI_of_lN (by omega) b2
    exact Or.inr ⟨b, by omega, e, by rw [e]; exact (by decide : ∀ k, k < 8 → sX0_isKind (nI k) = true) b (by omega), rfl⟩
  | false =>
    refine Or.inl ⟨?_, rfl⟩
    cases h2 : sX0_isKind x with
    | false => rfl
    | true =>
      have hv := kind_vp (x := x) (by rw [h2]; decide)
      obtain ⟨e, b⟩ := nI_cl hv
      rw [e, nIL (by omega), (by decide +kernel : ∀ k, k < 8 → sX6_isIn (lN k) 0 7 = true) _ b] at h
      cases h
theorem prim_of {MC MR : xM} {κ ζ : Nat → Nat} {t : Nat} (ht : t < 12) (h : RelT MC MR κ ζ t) (hs : sX5_isSlot (nI t).toInt64 = true) : sX5_primitiveError MC (nI t) = if eA (κ t) = 0 then (if κ t < 8 then 0 else -7) else eA (κ t) := by
  unfold sX5_primitiveError
  rw [arrayE_of ht h hs, nI_clamp (by omega)]
  by_cases c : eA (κ t) = 0
  · have hk : κ t < 14 := by have := h.1; rcases eA_0 c with q | q <;> omega
    rw [if_pos c, if_pos c, prim_k hk (by rw [h.2.2.1, kdI_lt (by omega)])]
    by_cases q : κ t < 8
    · rw [decide_eq_true q, if_pos q]; rfl
    · rw [decide_eq_false q, if_neg q]; rfl
  · rw [if_neg c, if_neg c]
theorem wt_eq : ∀ a, a < 8 → ∀ k, k < 8 → sX0_widens (nI a) (nI k) = sX6_turns (nI a) (nI k) := by decide
theorem prim_bad {M : xM} {x : Int32} (h : sX5_isSlot x.toInt64 = false) : sX5_primitiveError M x = -1 ∧ ∀ y, sX5_placeError M x y = -1 := by
  unfold sX5_primitiveError sX5_placeError sX5_arrayError sX5_slotError
  rw [h]
  exact ⟨rfl, fun _ => rfl⟩
theorem fits_eq {k : Nat} (hk : k < 8) (v : Int64) : sX0_fits (nI k) v = sX6_isNumber (nI k) v := by
  have h8 : k = 0 ∨ k = 1 ∨ k = 2 ∨ k = 3 ∨ k = 4 ∨ k = 5 ∨ k = 6 ∨ k = 7 := by omega
  rcases h8 with rfl | rfl | rfl | rfl | rfl | rfl | rfl | rfl
  · rfl
  · rfl
  · rfl
  · rfl
  · rfl
  · show (if v < (-9223372036854775808 : Int64) then false else (if (9223372036854775807 : Int64) < v then false else true)) = true
    have h1 := Int64.le_toInt v
    have h2 := Int64.toInt_lt v
    rw [if_neg (fun z => by have := Int64.lt_iff_toInt_lt.mp z; have e : (-9223372036854775808 : Int64).toInt = -9223372036854775808 := rfl; omega), if_neg (fun z => by have := Int64.lt_iff_toInt_lt.mp z; have e : (9223372036854775807 : Int64).toInt = 9223372036854775807 := rfl; omega)]
  · rfl
  · rfl
theorem eA_lt {k : Nat} (h : ¬ eA k = 0) : eA k < 0 := by
  rcases eA_neg k with q | q | q
  · exact absurd q h
  · rw [q]; decide
  · rw [q]; decide
theorem eA_nle {k : Nat} (h : ¬ eA k = 0) : ¬ 0 ≤ eA k := Int32.not_le.mpr (eA_lt h)
theorem get_eq {MC MR : xM} {κ ζ : Nat → Nat} (hS : ∀ t, t < 12 → RelT MC MR κ ζ t) {t k : Nat} (ht : t < 12) (hk : k < 8) (s1 : sX5_isSlot (nI t).toInt64 = true) (x : Int32) : sX5_getError MC (nI t) (nI k) x = sX6_refusalOfGet MR (nI t) (nI k) x := by
  have h := hS t ht
  have hk1 : sX0_isKind (nI k) = true := (by decide : ∀ k, k < 8 → sX0_isKind (nI k) = true) k hk
  unfold sX5_getError sX6_refusalOfGet
  rw [hk1, if_neg hbt, prim_of ht h s1, placeE_of ht h s1 x, refusal_of ht h]
  by_cases c : eA (κ t) = 0
  · have hk14 : κ t < 14 := by have := h.1; rcases eA_0 c with q | q <;> omega
    rw [c, if_pos rfl, if_pos (show (0 : Int32) ≤ 0 by decide), if_pos rfl, plain_of ht hk14 h.2.2.2.1, isPlace_of ht h (by omega) x]
    by_cases q : κ t < 8
    · rw [if_pos q, decide_eq_true q, if_neg hbt, if_pos rfl]
      cases sX2_hasPlace MC (54 + 3 * t) x with
      | false => rfl
      | true => rw [if_neg hbt, if_neg hbt, if_pos rfl, nI_clamp (by omega), h.2.2.1, h.2.2.2.1, kdI_lt (by omega), wt_eq _ q _ hk]
    · rw [if_neg q, decide_eq_false q, if_pos hbf, if_neg (by decide), if_neg (by decide)]
  · rw [if_neg c, if_neg c, if_neg c, if_neg (eA_nle c)]
theorem f6_of {MC MR : xM} {κ ζ : Nat → Nat} {t i : Nat} (h : RelT MC MR κ ζ t) (hi : i < ζ t) (e : κ t = 6) : okF 6 (mL MR 5 (12 * t + i)) := by
  obtain ⟨-, -, -, -, -, -, -, -, h9⟩ := h
  obtain ⟨-, -, w, q1, q2⟩ := h9 i hi
  have hw := q2.2.1 (by omega)
  rw [e] at hw
  exact q2.V.f6 hw
theorem lt_of0 {x y : Int32} (h : x = y) (h2 : ¬ x = 0) (h3 : y = 0 ∨ y < 0) : y < 0 := by
  rcases h3 with h3 | h3
  · exact absurd (h.trans h3) h2
  · exact h3
theorem rog_neg (M : xM) (x y z : Int32) : sX6_refusalOfGet M x y z = 0 ∨ sX6_refusalOfGet M x y z < 0 := by
  unfold sX6_refusalOfGet
  split
  · split
    · exact Or.inr (by decide)
    · split
      · exact Or.inr (by decide)
      · split
        · exact Or.inr (by decide)
        · exact Or.inl rfl
  · rename_i h
    exact Or.inr (Int32.not_le.mp h)
theorem fc_get : Fc_get Rel := by
  intro a0 a1 a2 MC MR hR
  have hbad : Rel (tX5_report (tX5_tally MC (-1)) (-1) (-1)) (tX6_tells MR (-1) (-1)) := by
    rw [tally_0 MC (by decide)]; exact Rel_tells hR _ _
  obtain ⟨κ, ζ, hS⟩ := hR.2.2.2.1
  rcases kind_cases a1 with ⟨k1, k2⟩ | ⟨k, hk, rfl, k1, k2⟩
  · have e : sX5_getError MC a0 a1 a2 = -1 := by unfold sX5_getError; rw [k1, if_pos hbf]
    have h1 := sp_X5_get_e (d := 200) (by decide) a0 a1 a2 hR.1 (by rw [e]; decide)
    rw [e] at h1
    refine fcL h1 (sp_X6_get_bad (by decide) a0 a1 a2 hR.2.1 ?_) rfl hbad
    cases h : sX6_isThing a0.toInt64 with
    | false => exact Or.inl rfl
    | true => exact Or.inr ⟨rfl, k2⟩
  · rcases slot_cases a0 with ⟨s1, s2⟩ | ⟨t, ht, rfl, s1, s2⟩
    · have e : sX5_getError MC a0 (nI k) a2 = -1 := by
        unfold sX5_getError
        rw [k1, if_neg hbt, (prim_bad s1).1]
        rfl
      have h1 := sp_X5_get_e (d := 200) (by decide) a0 (nI k) a2 hR.1 (by rw [e]; decide)
      rw [e] at h1
      exact fcL h1 (sp_X6_get_bad (by decide) a0 (nI k) a2 hR.2.1 (Or.inl s2)) rfl hbad
    · have e := get_eq hS ht hk s1 a2
      by_cases c : sX5_getError MC (nI t) (nI k) a2 = 0
      · have hT := hS t ht
        have hz : sX6_refusalOfGet MR (nI t) (nI k) a2 = 0 := e ▸ c
        have hp0 := prim_of ht hT s1
        have hpl := placeE_of ht hT s1 a2
        have c' := c
        unfold sX5_getError at c'
        rw [k1, if_neg hbt, hp0, hpl] at c'
        by_cases ca : eA (κ t) = 0
        · have hk14 : κ t < 14 := by have := hT.1; rcases eA_0 ca with q | q <;> omega
          rw [if_pos ca, if_pos ca] at c'
          by_cases q : κ t < 8
          · rw [if_pos q, if_pos rfl] at c'
            cases hh : sX2_hasPlace MC (54 + 3 * t) a2 with
            | false => rw [hh] at c'; exact absurd (show (-8 : Int32) = 0 from c') (by decide)
            | true =>
              obtain ⟨i, hi, rfl⟩ := has_lt hT.2.2.2.2.1 hT.2.1 hh
              have hz12 := hT.2.1
              have hf := f6_of hT hi
              obtain ⟨g1, g2, g3, g4, g5, g6, g7, g8, g9⟩ := hT
              obtain ⟨q1, q2, -⟩ := g9 i hi
              rw [nIL (by omega)] at s2 k2
              have h1 := sp_X5_get_ok (d := 200) (by decide) t k i (κ t) hR.1 ht (by omega) hk q (by rw [g3, kdI_lt (by omega)]) (fun z => by rw [q2]; exact hf z) c
              have h2 := sp_X6_get_ok (d := 200) (by decide) t k i (κ t) hR.2.1 ht (by omega) hk q (by rw [g4, kdI_lt (by omega)]) hf s2 k2 hz
              refine fcL h1 h2 (by rw [q2]) ?_
              rw [tally_0 MC (by decide)]
              exact Rel_tells hR 0 (-1)
          · rw [if_neg q, if_neg (by decide), if_neg (by decide)] at c'
            exact absurd c' (by decide)
        · rw [if_neg ca, if_neg ca, if_neg ca] at c'
          exact absurd c' ca
      · have h1 := sp_X5_get_e (d := 200) (by decide) (nI t) (nI k) a2 hR.1 c
        have h2 := sp_X6_get_no (d := 200) (by decide) (nI t) (nI k) a2 hR.2.1 s2 k2 (lt_of0 e c (rog_neg _ _ _ _))
        rw [← e] at h2
        exact fcL h1 h2 rfl (Rel_look hR _ _)
-- set
theorem fc_set : Fc_set Rel := by
  intro a0 a1 a2 v MC MR hR
  have hbad : Rel (tX5_tally MC (-1)) MR := by rw [tally_0 MC (by decide)]; exact hR
  obtain ⟨κ, ζ, hS⟩ := hR.2.2.2.1
  rcases kind_cases a1 with ⟨k1, k2⟩ | ⟨k, hk, rfl, k1, k2⟩
  · have e : sX5_setError MC a0 a1 a2 v = -1 := by unfold sX5_setError; rw [k1, if_pos hbf]
    have h1 := sp_X5_set_e (d := 200) (by decide) a0 a1 a2 v hR.1 (by rw [e]; decide)
    rw [e] at h1
    refine fcI h1 (sp_X6_set_bad (by decide) a0 a1 a2 v hR.2.1 ?_) rfl hbad
    cases h : sX6_isThing a0.toInt64 with
    | false => exact Or.inl rfl
    | true => exact Or.inr ⟨rfl, Or.inl k2⟩
  · have hf := fits_eq hk v
    cases hn : sX6_isNumber (nI k) v with
    | false =>
      have e : sX5_setError MC a0 (nI k) a2 v = -1 := by unfold sX5_setError; rw [k1, if_neg hbt, hf, hn, if_pos hbf]
      have h1 := sp_X5_set_e (d := 200) (by decide) a0 (nI k) a2 v hR.1 (by rw [e]; decide)
      rw [e] at h1
      refine fcI h1 (sp_X6_set_bad (by decide) a0 (nI k) a2 v hR.2.1 ?_) rfl hbad
      cases h : sX6_isThing a0.toInt64 with
      | false => exact Or.inl rfl
      | true => exact Or.inr ⟨rfl, Or.inr ⟨k2, hn⟩⟩
    | true =>
      rcases slot_cases a0 with ⟨s1, s2⟩ | ⟨t, ht, rfl, s1, s2⟩
      · have e : sX5_setError MC a0 (nI k) a2 v = -1 := by
          unfold sX5_setError
          rw [k1, if_neg hbt, hf, hn, if_neg hbt, (prim_bad s1).1]
          rfl
        have h1 := sp_X5_set_e (d := 200) (by decide) a0 (nI k) a2 v hR.1 (by rw [e]; decide)
        rw [e] at h1
        exact fcI h1 (sp_X6_set_bad (by decide) a0 (nI k) a2 v hR.2.1 (Or.inl s2)) rfl hbad
      · have hT := hS t ht
        have er := refusal_of ht hT
        have ee : sX5_setError MC (nI t) (nI k) a2 v = if eA (κ t) = 0 then (if κ t < 8 then (if bz (sX2_hasPlace MC (54 + 3 * t) a2) = 0 then -8 else (if bz (sX6_turns (nI k) (nI (κ t))) = 0 then -9 else 0)) else -7) else eA (κ t) := by
          unfold sX5_setError
          rw [k1, if_neg hbt, hf, hn, if_neg hbt, prim_of ht hT s1, placeE_of ht hT s1 a2]
          by_cases c : eA (κ t) = 0
          · rw [if_pos c, if_pos c, if_pos c]
            have hk14 : κ t < 14 := by have := hT.1; rcases eA_0 c with q | q <;> omega
            by_cases q : κ t < 8
            · rw [if_pos q, if_pos q, if_pos rfl]
              cases sX2_hasPlace MC (54 + 3 * t) a2 with
              | false => rfl
              | true => rw [if_neg hbt, if_pos rfl, if_neg hbt, nI_clamp (by omega), hT.2.2.1, kdI_lt (by omega), wt_eq _ hk _ q]
            · rw [if_neg q, if_neg q, if_neg (by decide), if_neg (by decide)]
          · rw [if_neg c, if_neg c, if_neg c, if_neg c]
        by_cases c : eA (κ t) = 0
        · have hk14 : κ t < 14 := by have := hT.1; rcases eA_0 c with q | q <;> omega
          rw [if_pos c] at ee
          rw [c] at er
          have hpl := plain_of ht hk14 hT.2.2.2.1
          have hip := isPlace_of ht hT (by omega) a2
          by_cases q : κ t < 8
          · rw [decide_eq_true q] at hpl
            rw [if_pos q] at ee
            cases hh : sX2_hasPlace MC (54 + 3 * t) a2 with
            | false =>
              rw [hh] at ee hip
              have e : sX5_setError MC (nI t) (nI k) a2 v = -8 := ee
              have h1 := sp_X5_set_e (d := 200) (by decide) (nI t) (nI k) a2 v hR.1 (by rw [e]; decide)
              rw [e] at h1
              exact fcI h1 (sp_X6_set_p (by decide) (nI t) (nI k) a2 v hR.2.1 s2 k2 hn er hpl hip) rfl (Rel_tally hR _)
            | true =>
              rw [hh] at ee hip
              rw [if_neg hbt] at ee
              cases hw : sX6_turns (nI k) (nI (κ t)) with
              | false =>
                rw [hw] at ee
                have e : sX5_setError MC (nI t) (nI k) a2 v = -9 := ee
                have h1 := sp_X5_set_e (d := 200) (by decide) (nI t) (nI k) a2 v hR.1 (by rw [e]; decide)
                rw [e] at h1
                exact fcI h1 (sp_X6_set_k (by decide) (nI t) (nI k) a2 v hR.2.1 s2 k2 hn er hpl hip (by rw [nI_clamp (by omega), hT.2.2.2.1, kdI_lt (by omega)]; exact hw)) rfl (Rel_tally hR _)
              | true =>
                rw [hw, if_neg hbt] at ee
                obtain ⟨i, hi, rfl⟩ := has_lt hT.2.2.2.2.1 hT.2.1 hh
                have hz12 := hT.2.1
                have hoN := okN_psd hk hn
                have hv6 : k = 6 → okF 6 (psd k v) := fun z => by
                  have := hoN.2 (Or.inl z)
                  rw [z] at this ⊢
                  exact this
                obtain ⟨g1, g2, g3, g4, g5, g6, g7, g8, g9⟩ := hT
                obtain ⟨q1, q2, w, q3, q4⟩ := g9 i hi
                have hwk : w = κ t := q4.2.1 q
                rw [nIL (by omega)] at s2 k2 hip
                have h1 := sp_X5_set_ok (d := 200) (by decide) t k i (κ t) v hR.1 ht (by omega) hk hk14 (by rw [g3, kdI_lt (by omega)]) hv6 ee
                have h2 := sp_X6_set_ok (d := 200) (by decide) t k i (κ t) v hR.2.1 ht (by omega) hk q (by rw [g4, kdI_lt (by omega)]) hv6 s2 k2 hn er hpl hip hw
                refine fcI h1 h2 rfl ?_
                have e1 : hwt (κ t) k = κ t := if_pos q
                have e2 : hvl (κ t) k (psd k v) = wid k (κ t) (psd k v) := if_pos q
                rw [e1, e2]
                have hc := (Rel_cell hR hS ht hi (w := κ t) (v := wid k (κ t) (psd k v)) ⟨by omega, fun _ => rfl, by omega, by omega, by omega, by omega, by omega, fun _ => okN_wid hk q hw hoN, by omega, by omega, by omega, by omega⟩).1
                have e3 : celM MR (12 * t + i) (nI (κ t)) (wid k (κ t) (psd k v)) = stL MR 5 (12 * t + i) (wid k (κ t) (psd k v)) := by
                  unfold celM
                  rw [stI_same (by rw [q3, hwk])]
                rw [e3] at hc
                exact hc
          · rw [decide_eq_false q] at hpl
            rw [if_neg q] at ee
            have h1 := sp_X5_set_e (d := 200) (by decide) (nI t) (nI k) a2 v hR.1 (by rw [ee]; decide)
            rw [ee] at h1
            exact fcI h1 (sp_X6_set_o (by decide) (nI t) (nI k) a2 v hR.2.1 s2 k2 hn er hpl) rfl (Rel_tally hR _)
        · rw [if_neg c] at ee
          have h1 := sp_X5_set_e (d := 200) (by decide) (nI t) (nI k) a2 v hR.1 (by rw [ee]; exact c)
          have h2 := sp_X6_set_r (d := 200) (by decide) (nI t) (nI k) a2 v hR.2.1 s2 k2 hn (by rw [er]; exact eA_lt c)
          rw [ee] at h1
          rw [er] at h2
          exact fcI h1 h2 rfl (Rel_tally hR _)
-- put
theorem what_cases (x : Int32) : ((x < 0 ∨ 11 < x) ∧ sX6_isIn x.toInt64 0 11 = false) ∨ ∃ k, k < 12 ∧ x = nI k ∧ ¬ x < 0 ∧ ¬ 11 < x ∧ sX6_isIn x.toInt64 0 11 = true := by
  cases h : sX6_isIn x.toInt64 0 11 with
  | true =>
    obtain ⟨b, b1, b2⟩ := inN (n := 11) (by decide) h
    have e := nI_of_lN (by omega) b2
    have := (by decide : ∀ k, k < 12 → ¬ nI k < 0 ∧ ¬ 11 < nI k) b (by omega)
    rw [e]
    exact Or.inr ⟨b, by omega, rfl, this.1, this.2, rfl⟩
  | false =>
    refine Or.inl ⟨?_, rfl⟩
    by_cases c1 : x < 0
    · exact Or.inl c1
    · by_cases c2 : 11 < x
      · exact Or.inr c2
      · exfalso
        have hv := le_vp 11 rfl (by decide) c1 c2
        obtain ⟨e, b⟩ := nI_cl hv
        rw [e, nIL (by omega), (by decide +kernel : ∀ k, k < 12 → sX6_isIn (lN k) 0 11 = true) _ b] at h
        cases h
theorem slotL_cases (v : Int64) : (sX5_isSlot v = false ∧ sX6_isThing v = false) ∨ ∃ u, u < 12 ∧ v = lN u ∧ sX5_isSlot v = true ∧ sX6_isThing v = true := by
  cases h : sX6_isThing v with
  | true =>
    obtain ⟨b, b1, b2⟩ := inN (n := 11) (by decide) h
    rw [b2]
    exact Or.inr ⟨b, by omega, rfl, (by decide +kernel : ∀ u, u < 12 → sX5_isSlot (lN u) = true) b (by omega), rfl⟩
  | false =>
    refine Or.inl ⟨?_, rfl⟩
    cases h2 : sX5_isSlot v with
    | false => rfl
    | true =>
      exfalso
      unfold sX5_isSlot at h2
      unfold sX6_isThing sX6_isIn at h
      by_cases c1 : v < 0
      · rw [if_pos c1] at h2; cases h2
      · rw [if_neg c1] at h h2
        by_cases c2 : 12 ≤ v
        · rw [if_pos c2] at h2; cases h2
        · rw [if_neg (fun z => c2 (Int64.le_iff_toInt_le.mpr (by have := Int64.lt_iff_toInt_lt.mp z; have e1 : (11 : Int64).toInt = 11 := rfl; have e2 : (12 : Int64).toInt = 12 := rfl; omega)))] at h
          cases h
theorem val_8 (M : xM) (v : Int64) : sX5_isValue M (nI 8) v = wrd v := by
  unfold sX5_isValue
  rw [if_pos (by decide)]
theorem val_9 (M : xM) (v : Int64) : sX5_isValue M (nI 9) v = (if v < 0 then false else (if 6 ≤ v then false else true)) := by
  unfold sX5_isValue
  rw [if_neg (by decide), if_pos (by decide)]
theorem val_10 (M : xM) (v : Int64) : sX5_isValue M (nI 10) v = (if (bz (sX5_isSlot v)) = 0 then false else (if (bz (sX2_isArray M (54 + 3 * ((Int64.toInt32 v).toNatClampNeg)))) = 0 then false else true)) := by
  unfold sX5_isValue
  rw [if_neg (by decide), if_neg (by decide), if_pos (by decide)]
theorem val_11 (M : xM) (v : Int64) : sX5_isValue M (nI 11) v = (if v = 0 then true else false) := by
  unfold sX5_isValue
  rw [if_neg (by decide), if_neg (by decide), if_neg (by decide), if_pos (by decide)]
theorem som_8 (M : xM) (v : Int64) : sX6_isSomething M (nI 8) v = wrd v := by
  unfold sX6_isSomething
  rw [if_pos (by decide), if_pos (by decide)]
theorem som_9 (M : xM) (v : Int64) : sX6_isSomething M (nI 9) v = sX6_isIn v 0 5 := by
  unfold sX6_isSomething
  rw [if_pos (by decide), if_neg (by decide), if_pos (by decide)]
theorem som_10 (M : xM) (v : Int64) : sX6_isSomething M (nI 10) v = (if (bz (sX6_isThing v)) = 0 then false else (if (bz (sX6_isRow M (Int64.toInt32 v))) = 0 then false else true)) := by
  unfold sX6_isSomething
  rw [if_pos (by decide), if_neg (by decide), if_neg (by decide), if_pos (by decide)]
theorem som_11 (M : xM) (v : Int64) : sX6_isSomething M (nI 11) v = (if v = 0 then true else false) := by
  unfold sX6_isSomething
  rw [if_pos (by decide), if_neg (by decide), if_neg (by decide), if_neg (by decide)]
theorem some_eq {MC MR : xM} {κ ζ : Nat → Nat} (hS : ∀ t, t < 12 → RelT MC MR κ ζ t) {w : Nat} (hw : w < 12) (v : Int64) : sX5_isValue MC (nI w) v = sX6_isSomething MR (nI w) v ∧ (sX6_isSomething MR (nI w) v = true → okV κ w (psd w v)) := by
  by_cases c : w < 8
  · have e1 : sX5_isValue MC (nI w) v = sX0_fits (nI w) v := by
      unfold sX5_isValue
      have := (by decide : ∀ w, w < 8 → ¬ nI w = 8 ∧ ¬ nI w = 9 ∧ ¬ nI w = 10 ∧ ¬ nI w = 11) w c
      rw [if_neg this.1, if_neg this.2.1, if_neg this.2.2.1, if_neg this.2.2.2]
    have e2 : sX6_isSomething MR (nI w) v = sX6_isNumber (nI w) v := by
      unfold sX6_isSomething
      rw [if_neg ((by decide : ∀ w, w < 8 → ¬ 8 ≤ nI w) w c)]
    rw [e1, e2, fits_eq c]
    exact ⟨rfl, fun z => ⟨hw, fun _ => okN_psd c z, by omega, by omega, by omega, by omega⟩⟩
  · rw [psd_o (by omega)]
    have h4 : w = 8 ∨ w = 9 ∨ w = 10 ∨ w = 11 := by omega
    rcases h4 with rfl | rfl | rfl | rfl
    · rw [val_8, som_8]
      exact ⟨rfl, fun z => ⟨by decide, by omega, fun _ => z, by omega, by omega, by omega⟩⟩
    · rw [val_9, som_9]
      refine ⟨?_, fun z => ?_⟩
      · unfold sX6_isIn
        by_cases c1 : v < 0
        · rw [if_pos c1, if_pos c1]
        · rw [if_neg c1, if_neg c1]
          have : (6 ≤ v) ↔ (5 < v) := by
            rw [Int64.le_iff_toInt_le, Int64.lt_iff_toInt_lt]
            have e1 : (6 : Int64).toInt = 6 := rfl
            have e2 : (5 : Int64).toInt = 5 := rfl
            omega
          simp only [this]
      · obtain ⟨b, b1, b2⟩ := inN (n := 5) (by decide) z
        exact ⟨by decide, by omega, by omega, fun _ => ⟨b, by omega, b2⟩, by omega, by omega⟩
    · rcases slotL_cases v with ⟨s1, s2⟩ | ⟨u, hu, rfl, s1, s2⟩
      · have e1 : sX5_isValue MC (nI 10) v = false := by
          rw [val_10, s1, if_pos hbf]
        have e2 : sX6_isSomething MR (nI 10) v = false := by
          rw [som_10, s2, if_pos hbf]
        rw [e1, e2]
        exact ⟨rfl, fun z => by cases z⟩
      · have hu1 := hS u hu
        have ra := row_of hu hu1.1 hu1.2.2.2.1
        have e1 : sX5_isValue MC (nI 10) (lN u) = decide (κ u < 14) := by
          rw [val_10, s1, if_neg hbt, l32 hu, nI_clamp (by omega)]
          unfold sX2_isArray
          rw [hu1.2.2.1]
          exact (by decide : ∀ k, k ≤ 16 → (if bz (if kdI k < 0 then false else if 13 < kdI k then false else true) = 0 then false else true) = decide (k < 14)) _ hu1.1
        have e2 : sX6_isSomething MR (nI 10) (lN u) = decide (κ u < 14) := by
          rw [som_10, s2, if_neg hbt, l32 hu, ra]
          cases decide (κ u < 14) <;> rfl
        rw [e1, e2]
        exact ⟨rfl, fun z => ⟨by decide, by omega, by omega, by omega, fun _ => ⟨u, hu, rfl, of_decide_eq_true z⟩, by omega⟩⟩
    · rw [val_11, som_11]
      refine ⟨rfl, fun z => ⟨by decide, by omega, by omega, by omega, by omega, fun _ => ?_⟩⟩
      by_cases c0 : v = 0
      · exact c0
      · rw [if_neg c0] at z; cases z
theorem fc_put : Fc_put Rel := by
  intro a0 a1 a2 v MC MR hR
  have hbad : Rel (tX5_tally MC (-1)) MR := by rw [tally_0 MC (by decide)]; exact hR
  obtain ⟨κ, ζ, hS⟩ := hR.2.2.2.1
  rcases what_cases a2 with ⟨k1, k2⟩ | ⟨w, hw, rfl, k0, k1, k2⟩
  · have e : sX5_putError MC a0 a1 a2 v = -1 := by
      unfold sX5_putError
      rcases k1 with k1 | k1
      · rw [if_pos k1]
      · rw [if_pos k1]
        split <;> rfl
    have h1 := sp_X5_put_e (d := 200) (by decide) a0 a1 a2 v hR.1 (by rw [e]; decide)
    rw [e] at h1
    refine fcI h1 (sp_X6_put_bad (by decide) a0 a1 a2 v hR.2.1 ?_) rfl hbad
    cases h : sX6_isThing a0.toInt64 with
    | false => exact Or.inl rfl
    | true => exact Or.inr ⟨rfl, Or.inl k2⟩
  · obtain ⟨hv, hok⟩ := some_eq hS hw v
    cases hn : sX6_isSomething MR (nI w) v with
    | false =>
      have e : sX5_putError MC a0 a1 (nI w) v = -1 := by unfold sX5_putError; rw [if_neg k0, if_neg k1, hv, hn, if_pos hbf]
      have h1 := sp_X5_put_e (d := 200) (by decide) a0 a1 (nI w) v hR.1 (by rw [e]; decide)
      rw [e] at h1
      refine fcI h1 (sp_X6_put_bad (by decide) a0 a1 (nI w) v hR.2.1 ?_) rfl hbad
      cases h : sX6_isThing a0.toInt64 with
      | false => exact Or.inl rfl
      | true => exact Or.inr ⟨rfl, Or.inr ⟨k2, hn⟩⟩
    | true =>
      have hok := hok hn
      rcases slot_cases a0 with ⟨s1, s2⟩ | ⟨t, ht, rfl, s1, s2⟩
      · have e : sX5_putError MC a0 a1 (nI w) v = -1 := by
          unfold sX5_putError
          rw [if_neg k0, if_neg k1, hv, hn, if_neg hbt, (prim_bad s1).2]
          rfl
        have h1 := sp_X5_put_e (d := 200) (by decide) a0 a1 (nI w) v hR.1 (by rw [e]; decide)
        rw [e] at h1
        exact fcI h1 (sp_X6_put_bad (by decide) a0 a1 (nI w) v hR.2.1 (Or.inl s2)) rfl hbad
      · have hT := hS t ht
        have er := refusal_of ht hT
        have ee : sX5_putError MC (nI t) a1 (nI w) v = if eA (κ t) = 0 then (if bz (sX2_hasPlace MC (54 + 3 * t) a1) = 0 then -8 else (if bz (sX5_accepts MC (nI (κ t)) (nI w) v) = 0 then -9 else 0)) else eA (κ t) := by
          unfold sX5_putError
          rw [if_neg k0, if_neg k1, hv, hn, if_neg hbt, placeE_of ht hT s1 a1]
          by_cases c : eA (κ t) = 0
          · have hk14 : κ t < 14 := by have := hT.1; rcases eA_0 c with q | q <;> omega
            rw [if_pos c, if_pos c]
            cases sX2_hasPlace MC (54 + 3 * t) a1 with
            | false => rfl
            | true => rw [if_neg hbt, if_pos rfl, if_neg hbt, nI_clamp (by omega), hT.2.2.1, kdI_lt (by omega)]
          · rw [if_neg c, if_neg c, if_neg c]
        by_cases c : eA (κ t) = 0
        · have hk14 : κ t < 14 := by have := hT.1; rcases eA_0 c with q | q <;> omega
          rw [if_pos c] at ee
          rw [c] at er
          have hip := isPlace_of ht hT (by omega) a1
          cases hh : sX2_hasPlace MC (54 + 3 * t) a1 with
          | false =>
            rw [hh] at ee hip
            have e : sX5_putError MC (nI t) a1 (nI w) v = -8 := ee
            have h1 := sp_X5_put_e (d := 200) (by decide) (nI t) a1 (nI w) v hR.1 (by rw [e]; decide)
            rw [e] at h1
            exact fcI h1 (sp_X6_put_p (by decide) (nI t) a1 (nI w) v hR.2.1 s2 k2 hn er hip) rfl (Rel_tally hR _)
          | true =>
            rw [hh] at ee hip
            rw [if_neg hbt] at ee
            obtain ⟨i, hi, rfl⟩ := has_lt hT.2.2.2.2.1 hT.2.1 hh
            have hz12 := hT.2.1
            have hacc : sX5_accepts MC (nI (κ t)) (nI w) v = tkB (kd4 MR (psd w v)) (κ t) w (psd w v) := by
              by_cases c8 : w < 8
              · have e1 : ∀ x y : Int64, sX5_accepts MC (nI (κ t)) (nI w) x = sX5_accepts MC (nI (κ t)) (nI w) y := by
                  intro x y
                  rw [acc_eq, acc_eq]
                  exact (by decide +kernel : ∀ k, k < 14 → ∀ w, w < 8 → ∀ a b c a' b' c' : Bool, accB a b c (nI k) (nI w) = accB a' b' c' (nI k) (nI w)) _ hk14 w c8 _ _ _ _ _ _
                rw [e1 v (psd w v)]
                exact acc_of hS hk14 hw (by omega)
              · rw [psd_o (by omega)] at hok ⊢
                exact acc_of hS hk14 hw (fun z => by obtain ⟨u, u1, u2, -⟩ := hok.2.2.2.2.1 z; exact ⟨u, u1, u2⟩)
            rw [hacc] at ee
            have h13 : κ t = 13 → w = 10 → vp_in (psd w v).toInt32 24 := fun _ z => by
              obtain ⟨u, u1, u2, -⟩ := hok.2.2.2.2.1 z
              rw [u2, l32 u1]
              exact vp_in_nI (by omega) (by decide)
            have g3 := hT.2.2.1
            have g4 := hT.2.2.2.1
            rw [nIL (by omega)] at s2 k2 hip
            cases hb : tkB (kd4 MR (psd w v)) (κ t) w (psd w v) with
            | false =>
              rw [hb] at ee
              have e : sX5_putError MC (nI t) (nI i) (nI w) v = -9 := ee
              have h1 := sp_X5_put_e (d := 200) (by decide) (nI t) (nI i) (nI w) v hR.1 (by rw [e]; decide)
              rw [e] at h1
              exact fcI h1 (sp_X6_put_k (by decide) t i w (κ t) v hR.2.1 ht (by omega) hw hk14 (by rw [g4, kdI_lt (by omega)]) hok.f6 h13 s2 k2 hn er hip hb) rfl (Rel_tally (Rel_tk hR _ _).1 _)
            | true =>
              rw [hb, if_neg hbt] at ee
              have hw8 : κ t < 8 → w < 8 := fun z => by
                unfold tkB at hb
                rw [if_pos z, Bool.and_eq_true] at hb
                exact of_decide_eq_true hb.1
              have h1 := sp_X5_put_ok (d := 200) (by decide) t i w (κ t) v hR.1 ht (by omega) hw hk14 (by rw [g3, kdI_lt (by omega)]) hw8 hok.f6 ee
              have h2 := sp_X6_put_ok (d := 200) (by decide) t i w (κ t) v hR.2.1 ht (by omega) hw hk14 (by rw [g4, kdI_lt (by omega)]) hok.f6 h13 s2 k2 hn er hip hb
              obtain ⟨r1, r2⟩ := Rel_tk hR (nI (hwt (κ t) w)) (hvl (κ t) w (psd w v))
              exact fcI h1 h2 rfl (Rel_cell r1 (fun u hu => r2 _ _ _ (hS u hu)) ht hi (okC_tk hok hk14 hb (fun _ hx => kd4_of hS hx))).1
        · rw [if_neg c] at ee
          have h1 := sp_X5_put_e (d := 200) (by decide) (nI t) a1 (nI w) v hR.1 (by rw [ee]; exact c)
          have h2 := sp_X6_put_r (d := 200) (by decide) (nI t) a1 (nI w) v hR.2.1 s2 k2 hn (by rw [er]; exact eA_lt c)
          rw [ee] at h1
          rw [er] at h2
          exact fcI h1 h2 rfl (Rel_tally hR _)
