-- CARRY: face
theorem pl_sum {MC MR : xM} {κ ζ : Nat → Nat} {t k : Nat} (ht : t < 12) (h : RelT MC MR κ ζ t) (hk : κ t < 16) (x : Int32) (hk12 : k ≤ 12) : sX6_isPlace MR (nI t) (x.toInt64 + lN k) = sX2_hasPlace MC (54 + 3 * t) (x + nI k) := by
  obtain ⟨-, h2, -, -, h5, h6, -⟩ := h
  unfold sX6_isPlace sX2_hasPlace
  rw [nI_clamp (by omega), h6 hk, h5, nIL (by omega)]
  have b1 := Int32.le_toInt x
  have b2 := Int32.toInt_lt x
  have e1 : (x.toInt64 + lN k).toInt = x.toInt + k := by
    rw [Int64.toInt_add, Int32.toInt_toInt64, pk_lT (by omega), Int.bmod_eq_of_le (by omega) (by omega)]
  have e2 : (x + nI k).toInt = (x.toInt + k).bmod (2 ^ 32) := by rw [Int32.toInt_add, nI_toInt (by omega)]
  have z0 : (0 : Int64).toInt = 0 := rfl
  have z1 : (0 : Int32).toInt = 0 := rfl
  have c1 : (x.toInt64 + lN k < 0) ↔ x.toInt + k < 0 := by rw [Int64.lt_iff_toInt_lt, e1, z0]
  have c2 : (lN (ζ t) ≤ x.toInt64 + lN k) ↔ (ζ t : Int) ≤ x.toInt + k := by rw [Int64.le_iff_toInt_le, e1, pk_lT (by omega)]
  by_cases g : x.toInt + k < 2147483648
  · have e3 : (x + nI k).toInt = x.toInt + k := by rw [e2, Int.bmod_eq_of_le (by omega) (by omega)]
    have c3 : (x + nI k < 0) ↔ x.toInt + k < 0 := by rw [Int32.lt_iff_toInt_lt, e3, z1]
    have c4 : (nI (ζ t) ≤ x + nI k) ↔ (ζ t : Int) ≤ x.toInt + k := by rw [Int32.le_iff_toInt_le, e3, nI_toInt (by omega)]
    simp only [c1, c2, c3, c4]
  · have e3 : (x + nI k).toInt = x.toInt + k - 4294967296 := by
      rw [e2, Int.bmod_def]
      omega
    have c3 : x + nI k < 0 := by rw [Int32.lt_iff_toInt_lt, e3, z1]; omega
    rw [if_pos c3, if_neg (fun q => by have := c1.mp q; omega), if_pos (c2.mpr (by omega))]
theorem two_dec : ∀ a, a ≤ 16 → ∀ b, b ≤ 16 → sX5_firstError (eA a) (eA b) = (if kdI a < 0 then (-5 : Int32) else if 0 ≤ kdI b then (if 13 < kdI a then -6 else if kdI b ≤ 13 then 0 else -6) else -5) := by decide
theorem arrP_of {MC MR : xM} {κ ζ : Nat → Nat} (hS : ∀ t, t < 12 → RelT MC MR κ ζ t) (x y : Int32) : (sX5_arrayPairError MC x y = -1 ∧ (sX6_isThing x.toInt64 = false ∨ (sX6_isThing x.toInt64 = true ∧ sX6_isThing y.toInt64 = false))) ∨ (∃ t u, t < 12 ∧ u < 12 ∧ x = nI t ∧ y = nI u ∧ sX6_isThing x.toInt64 = true ∧ sX6_isThing y.toInt64 = true ∧ sX5_arrayPairError MC x y = sX5_firstError (eA (κ t)) (eA (κ u)) ∧ sX6_refusalOfTwo MR x y = sX5_firstError (eA (κ t)) (eA (κ u))) := by
  unfold sX5_arrayPairError
  rcases slot_cases x with ⟨s1, s2⟩ | ⟨t, ht, rfl, s1, s2⟩
  · refine Or.inl ⟨?_, Or.inl s2⟩
    have e : sX5_arrayError MC x = -1 := by unfold sX5_arrayError sX5_slotError; rw [s1]; rfl
    rw [e]
    rcases slot_cases y with ⟨r1, r2⟩ | ⟨u, hu, rfl, r1, r2⟩
    · have e : sX5_arrayError MC y = -1 := by unfold sX5_arrayError sX5_slotError; rw [r1]; rfl
      rw [e]; rfl
    · rw [arrayE_of hu (hS u hu) r1]
      exact (by decide : ∀ a, a ≤ 16 → sX5_firstError (-1) (eA a) = -1) _ (hS u hu).1
  · rcases slot_cases y with ⟨r1, r2⟩ | ⟨u, hu, rfl, r1, r2⟩
    · refine Or.inl ⟨?_, Or.inr ⟨s2, r2⟩⟩
      have e : sX5_arrayError MC y = -1 := by unfold sX5_arrayError sX5_slotError; rw [r1]; rfl
      rw [e, arrayE_of ht (hS t ht) s1]
      exact (by decide : ∀ a, a ≤ 16 → sX5_firstError (eA a) (-1) = -1) _ (hS t ht).1
    · refine Or.inr ⟨t, u, ht, hu, rfl, rfl, s2, r2, by rw [arrayE_of ht (hS t ht) s1, arrayE_of hu (hS u hu) r1], ?_⟩
      unfold sX6_refusalOfTwo
      rw [two_dec _ (hS t ht).1 _ (hS u hu).1, nI_clamp (by omega), nI_clamp (by omega), (hS t ht).2.2.2.1, (hS u hu).2.2.2.1]
theorem fe_neg : ∀ a, a ≤ 16 → ∀ b, b ≤ 16 → (sX5_firstError (eA a) (eA b) = 0 → a < 14 ∧ b < 14) ∧ (¬ sX5_firstError (eA a) (eA b) = 0 → sX5_firstError (eA a) (eA b) < 0) := by decide
abbrev cpl (F G : xF) (pc pc' : Nat) (lv lv' : List (Nat × Value)) (MC MR : xM) : Prop := ∃ (ρ : Int32) (QC QR : xM → Prop), AW F pc lv [] MC 0 0 (fun r M' => r = some (.int ρ) ∧ QC M') ∧ AW G pc' lv' [] MR 0 0 (fun r M' => r = some (.int ρ) ∧ QR M') ∧ ∀ A B, QC A → QR B → Rel A B
theorem cpl_dt {F G : xF} {pc pc' : Nat} {lv lv' : List (Nat × Value)} {MC MR MC' MR' : xM} {x : Int32} (h1 : AW F pc lv [] MC 0 0 (dt (some (.int x)) MC')) (h2 : AW G pc' lv' [] MR 0 0 (dt (some (.int x)) MR')) (h : Rel MC' MR') : cpl F G pc pc' lv lv' MC MR :=
  ⟨x, (fun M => M = MC'), (fun M => M = MR'), h1, h2, fun A B ha hb => by rw [ha, hb]; exact h⟩
theorem carry_loop {κ ζ : Nat → Nat} {t u N : Nat} (x y : Int32) (ht : t < 12) (hu : u < 12) (hN : N ≤ 12) (kt : κ t < 14) (ku : κ u < 14) : ∀ (n k : Nat) (e : Int32) (MC MR : xM), k + n = N → Rel MC MR → (∀ t, t < 12 → RelT MC MR κ ζ t) →
    cpl (fX5_carry 200) (fX6_carry 200) 40 60 [(7, .int (nI k)), (6, .int e), (0, .ref 0), (1, .int (nI t)), (2, .int x), (3, .int (nI u)), (4, .int y), (5, .int (nI N))] [(7, .int (nI k)), (6, .int 0), (0, .ref 0), (1, .int (nI t)), (2, .int x), (3, .int (nI u)), (4, .int y), (5, .int (nI N))] MC MR := by
  intro n
  induction n with
  | zero =>
    intro k e MC MR hk hR hS
    obtain rfl : k = N := by omega
    exact cpl_dt (ca_Z (by decide) t u k x y e hR.1 ht hu hN) (cr_Z (by decide) t u k x y 0 hR.2.1 ht hu hN) (Rel_tells hR _ _)
  | succ n ih =>
    intro k e MC MR hk hR hS
    have hTt := hS t ht
    have hTu := hS u hu
    have p1 := pl_sum ht hTt (by omega) x (show k ≤ 12 by omega)
    have p2 := pl_sum hu hTu (by omega) y (show k ≤ 12 by omega)
    cases h1 : sX2_hasPlace MC (54 + 3 * t) (x + nI k) with
    | false =>
      rw [h1] at p1
      exact cpl_dt (ca_P (by decide) t u N k x y e hR.1 ht hu hN (by omega) (Or.inl h1)) (cr_P (by decide) t u N k x y 0 hR.2.1 ht hu hN (by omega) (Or.inl p1)) (Rel_tells hR _ _)
    | true =>
      rw [h1] at p1
      cases h2 : sX2_hasPlace MC (54 + 3 * u) (y + nI k) with
      | false =>
        rw [h2] at p2
        exact cpl_dt (ca_P (by decide) t u N k x y e hR.1 ht hu hN (by omega) (Or.inr ⟨h1, h2⟩)) (cr_P (by decide) t u N k x y 0 hR.2.1 ht hu hN (by omega) (Or.inr ⟨p1, p2⟩)) (Rel_tells hR _ _)
      | true =>
        rw [h2] at p2
        obtain ⟨i, hi, e1⟩ := has_lt hTt.2.2.2.2.1 hTt.2.1 h1
        obtain ⟨j, hj, e2⟩ := has_lt hTu.2.2.2.2.1 hTu.2.1 h2
        rw [e1] at h1
        rw [e2] at h2
        have zt := hTt.2.1
        have zu := hTu.2.1
        obtain ⟨-, -, -, -, -, -, -, -, t9⟩ := hTt
        obtain ⟨c1, c2, w, c3, c4⟩ := t9 i hi
        have hV := c4.V
        have kuC : mI MC (54 + 3 * u) 0 = nI (κ u) := by rw [hTu.2.2.1, kdI_lt (by omega)]
        have kuR : mI MR 1 u = nI (κ u) := by rw [hTu.2.2.2.1, kdI_lt (by omega)]
        have hacc := acc_of hS ku hV.1 (fun z => by obtain ⟨q, q1, q2, -⟩ := hV.2.2.2.2.1 z; exact ⟨q, q1, q2⟩)
        have h13 : κ u = 13 → w = 10 → vp_in (mL MR 5 (12 * t + i)).toInt32 24 := fun _ z => by
          obtain ⟨q, q1, q2, -⟩ := hV.2.2.2.2.1 z
          rw [q2, l32 q1]
          exact vp_in_nI (by omega) (by decide)
        cases h3 : tkB (kd4 MR (mL MR 5 (12 * t + i))) (κ u) w (mL MR 5 (12 * t + i)) with
        | false =>
          refine cpl_dt (ca_K (by decide) t u N k x y e hR.1 ht hu hN (by omega) e1 e2 (by omega) (by omega) h1 h2 kuC (c1.trans c3) c2 (hacc.trans h3)) (cr_K (by decide) t u N k x y 0 hR.2.1 ht hu hN (by omega) e1 e2 (by omega) (by omega) p1 p2 kuR c3 rfl ku hV.1 h13 hV.f6 h3) ?_
          exact Rel_tells (Rel_tk hR _ _).1 _ _
        | true =>
          have hw8 : κ u < 8 → w < 8 := fun z => by
            unfold tkB at h3
            rw [if_pos z, Bool.and_eq_true] at h3
            exact of_decide_eq_true h3.1
          obtain ⟨r1, r2⟩ := Rel_tk hR (nI (hwt (κ u) w)) (hvl (κ u) w (mL MR 5 (12 * t + i)))
          obtain ⟨r3, r4⟩ := Rel_cell r1 (fun v hv => r2 _ _ _ (hS v hv)) hu hj (okC_tk hV ku h3 (fun _ hx => kd4_of hS hx))
          obtain ⟨ρ, QC, QR, g1, g2, g3⟩ := ih (k + 1) 0 _ _ (by omega) r3 r4
          exact ⟨ρ, QC, QR, ca_O (by decide) t u N k x y e hR.1 ht hu hN (by omega) e1 e2 (by omega) (by omega) h1 h2 kuC (c1.trans c3) c2 (hacc.trans h3) ku hw8 hV.f6 g1, cr_O (by decide) t u N k x y 0 hR.2.1 ht hu hN (by omega) e1 e2 (by omega) (by omega) p1 p2 kuR c3 rfl ku hV.1 h13 hV.f6 h3 g2, g3⟩
theorem n12_cases (x : Int32) : ((x < 0 ∨ (¬ x < 0 ∧ ¬ x ≤ 12)) ∧ sX6_isIn x.toInt64 0 12 = false) ∨ ∃ k, k ≤ 12 ∧ x = nI k ∧ ¬ x < 0 ∧ x ≤ 12 ∧ sX6_isIn x.toInt64 0 12 = true := by
  cases h : sX6_isIn x.toInt64 0 12 with
  | true =>
    obtain ⟨b, b1, b2⟩ := inN (n := 12) (by decide) h
    have e := nI_of_lN (by omega) b2
    have := (by decide : ∀ k, k ≤ 12 → ¬ nI k < 0 ∧ nI k ≤ 12) b (by omega)
    rw [e]
    exact Or.inr ⟨b, by omega, rfl, this.1, this.2, rfl⟩
  | false =>
    refine Or.inl ⟨?_, rfl⟩
    by_cases c1 : x < 0
    · exact Or.inl c1
    · refine Or.inr ⟨c1, fun c2 => ?_⟩
      have hv := le_vp 12 rfl (by decide) c1 (Int32.not_lt.mpr c2)
      obtain ⟨e, b⟩ := nI_cl hv
      rw [e, nIL (by omega), (by decide +kernel : ∀ k, k < 13 → sX6_isIn (lN k) 0 12 = true) _ b] at h
      cases h
theorem fc_carry : Fc_carry Rel := by
  intro a0 a1 a2 a3 a4 MC MR hR
  obtain ⟨κ, ζ, hS⟩ := hR.2.2.2.1
  have hbad : Rel (tX5_report MC (-1) (-1)) (tX6_tells MR (-1) (-1)) := Rel_tells hR _ _
  rcases n12_cases a4 with ⟨n1, n2⟩ | ⟨N, hN, rfl, n1, n2, n3⟩
  · refine fcI (sp_X5_carry_bad (by decide) a0 a1 a2 a3 a4 hR.1 n1) (sp_X6_carry_bad (by decide) a0 a1 a2 a3 a4 hR.2.1 ?_) rfl hbad
    cases h : sX6_isThing a0.toInt64 with
    | false => exact Or.inl rfl
    | true =>
      refine Or.inr ⟨rfl, ?_⟩
      cases h2 : sX6_isThing a2.toInt64 with
      | false => exact Or.inl rfl
      | true => exact Or.inr ⟨rfl, n2⟩
  · rcases arrP_of hS a0 a2 with ⟨e, h⟩ | ⟨t, u, ht, hu, rfl, rfl, s1, s2, e, er⟩
    · have h1 := sp_X5_carry_e (d := 200) (by decide) a0 a1 a2 a3 (nI N) hR.1 n1 n2 (by rw [e]; decide)
      rw [e] at h1
      refine fcI h1 (sp_X6_carry_bad (by decide) a0 a1 a2 a3 (nI N) hR.2.1 ?_) rfl hbad
      rcases h with h | ⟨h, h2⟩
      · exact Or.inl h
      · exact Or.inr ⟨h, Or.inl h2⟩
    · obtain ⟨f1, f2⟩ := fe_neg _ (hS t ht).1 _ (hS u hu).1
      by_cases c : sX5_firstError (eA (κ t)) (eA (κ u)) = 0
      · obtain ⟨kt, ku⟩ := f1 c
        obtain ⟨ρ, QC, QR, g1, g2, g3⟩ := carry_loop a1 a3 ht hu hN kt ku N 0 0 MC MR (by omega) hR hS
        rw [nIL (by omega)] at s1 s2 n3
        exact ⟨ρ, QC, QR, sp_X5_carry_go (by decide) t u N a1 a3 hR.1 hN (e.trans c) g1, sp_X6_carry_go (by decide) t u N a1 a3 hR.2.1 ht hu hN s1 s2 n3 (er.trans c) g2, g3⟩
      · have h1 := sp_X5_carry_e (d := 200) (by decide) (nI t) a1 (nI u) a3 (nI N) hR.1 n1 n2 (by rw [e]; exact c)
        have h2 := sp_X6_carry_e (d := 200) (by decide) (nI t) a1 (nI u) a3 (nI N) hR.2.1 s1 s2 n3 (by rw [er]; exact f2 c)
        rw [e] at h1
        rw [er] at h2
        exact fcI h1 h2 rfl (Rel_tells hR _ _)
