-- SHAPE: face
theorem lsd_two (p : Nat → Bool) (x y : Int32) : ∀ n i, (∃ j, i ≤ j ∧ j < i + n ∧ lsd p x n i = nI j ∧ lsd p y n i = nI j) ∨ (lsd p x n i = x ∧ lsd p y n i = y)
  | 0, _ => Or.inr ⟨rfl, rfl⟩
  | n + 1, i => by
    cases c : p i with
    | true => exact Or.inl ⟨i, by omega, by omega, lsd_t n c, lsd_t n c⟩
    | false =>
      rw [lsd_f n c, lsd_f n c]
      rcases lsd_two p x y n (i + 1) with ⟨j, h1, h2, h3⟩ | h
      · exact Or.inl ⟨j, by omega, by omega, h3⟩
      · exact Or.inr h
theorem kin_two (w : Nat) (v : Int64) : (∃ k, k < 16 ∧ kin w v = nI k ∧ rin w v = nI k) ∨ (kin w v = -4 ∧ rin w v = -1) := by
  unfold kin rin
  by_cases c : w = 8
  · rw [if_pos c, if_pos c]
    rcases lsd_two (nmP v) (-4) (-1) 16 0 with ⟨j, -, h2, h3, h4⟩ | ⟨h1, h2⟩
    · exact Or.inl ⟨j, by omega, h3, h4⟩
    · exact Or.inr ⟨h1, h2⟩
  · rw [if_neg c, if_neg c]
    exact Or.inr ⟨rfl, rfl⟩
theorem wid_d : (∀ a, a < 8 → sX0_widens (nI a) (-4) = false) ∧ (∀ a, a < 8 → ∀ k, k < 16 → sX0_widens (nI a) (nI k) = (decide (k < 8) && sX6_turns (nI a) (nI k))) := by decide
theorem sch_cases {a : Nat} (ha : a < 8) (w : Nat) (v : Int64) : (sX0_widens (nI a) (kin w v) = true ∧ ∃ k, k < 8 ∧ kin w v = nI k ∧ rin w v = nI k ∧ sX6_turns (nI a) (nI k) = true) ∨ (sX0_widens (nI a) (kin w v) = false ∧ (rin w v < 0 ∨ (∃ k, k < 16 ∧ 8 ≤ k ∧ rin w v = nI k) ∨ (∃ k, k < 8 ∧ rin w v = nI k ∧ sX6_turns (nI a) (nI k) = false))) := by
  rcases kin_two w v with ⟨k, hk, h1, h2⟩ | ⟨h1, h2⟩
  · have e := wid_d.2 a ha k hk
    rw [h1]
    by_cases c : k < 8
    · rw [decide_eq_true c, Bool.true_and] at e
      cases g : sX6_turns (nI a) (nI k) with
      | true => exact Or.inl ⟨e.trans g, k, c, rfl, h2, g⟩
      | false => exact Or.inr ⟨e.trans g, Or.inr (Or.inr ⟨k, c, h2, g⟩)⟩
    · rw [decide_eq_false c, Bool.false_and] at e
      exact Or.inr ⟨e, Or.inr (Or.inl ⟨k, hk, by omega, h2⟩)⟩
  · rw [h1, h2]
    exact Or.inr ⟨wid_d.1 a ha, Or.inl (by decide)⟩
theorem tkB_12 (x : Bool) (w : Nat) (v : Int64) : tkB x 12 w v = true := by
  unfold tkB
  rw [if_neg (by decide), if_pos (Or.inr rfl)]
theorem fc_shape : Fc_shape Rel := by
  intro a0 a1 MC MR hR
  obtain ⟨κ, ζ, hS⟩ := hR.2.2.2.1
  rcases arrP_of hS a0 a1 with ⟨e, h⟩ | ⟨s, t, hs, ht, rfl, rfl, s1, s2, e, er⟩
  · have e2 : sX5_shapeError MC a0 a1 = -1 := by
      unfold sX5_shapeError
      rw [e, if_neg (by decide)]
    exact fcI (sp_X5_shape_e (by decide) a0 a1 (-1) hR.1 e2 (by decide)) (sp_X6_shape_bad (by decide) a0 a1 hR.2.1 h) rfl (Rel_tells hR _ _)
  · have hTs := hS s hs
    have hTt := hS t ht
    obtain ⟨f1, f2⟩ := fe_neg _ hTs.1 _ hTt.1
    rw [nIL (by omega)] at s1 s2
    by_cases c : sX5_firstError (eA (κ s)) (eA (κ t)) = 0
    · obtain ⟨ks, kt⟩ := f1 c
      have kC : mI MC (54 + 3 * s) 0 = nI (κ s) := by rw [hTs.2.2.1, kdI_lt (by omega)]
      have kR : mI MR 1 s = nI (κ s) := by rw [hTs.2.2.2.1, kdI_lt (by omega)]
      have tC : mI MC (54 + 3 * t) 0 = nI (κ t) := by rw [hTt.2.2.1, kdI_lt (by omega)]
      have tR : mI MR 1 t = nI (κ t) := by rw [hTt.2.2.2.1, kdI_lt (by omega)]
      have hpl := plain_of ht kt hTt.2.2.2.1
      have ee : sX5_shapeError MC (nI s) (nI t) = if κ s = 9 then (if κ t < 8 then 0 else -7) else -2 := by
        unfold sX5_shapeError
        rw [e, c, if_pos rfl, nI_clamp (by omega), nI_clamp (by omega), kC, prim_k kt tC]
        have q9 : (nI (κ s) = 9) ↔ κ s = 9 := (by decide : ∀ k, k < 14 → ((nI k = 9) ↔ k = 9)) _ ks
        by_cases q : κ s = 9
        · rw [if_pos (q9.mpr q), if_pos q]
          by_cases q2 : κ t < 8
          · rw [decide_eq_true q2, if_pos q2]; rfl
          · rw [decide_eq_false q2, if_neg q2]; rfl
        · rw [if_neg (fun z => q (q9.mp z)), if_neg q]
      by_cases q : κ s = 9
      · rw [if_pos q] at ee
        by_cases q2 : κ t < 8
        · rw [if_pos q2] at ee
          rw [decide_eq_true q2] at hpl
          have hcs := cells_of hTs
          have hct := cells_of hTt
          have zs12 := hTs.2.1
          have zt12 := hTt.2.1
          have zsC := hTs.2.2.2.2.1
          have zsR := hTs.2.2.2.2.2.1 (by omega)
          have ztC := hTt.2.2.2.2.1
          have ztR := hTt.2.2.2.2.2.1 (by omega)
          have hN := hR.2.2.2.2.2.2.2.2.2
          generalize hW : (fun i => (mI MR 4 (12 * s + i)).toNatClampNeg) = W
          generalize hV : (fun i => mL MR 5 (12 * s + i)) = V
          generalize hn : min (ζ s) (ζ t) = n
          have hcs : ∀ i, i < n → mI MC (54 + 3 * s + 1) i = nI (W i) ∧ mI MR 4 (12 * s + i) = nI (W i) ∧ mL MC (54 + 3 * s + 2) i = V i ∧ W i < 12 := by
            intro i hi
            obtain ⟨g1, g2, g3, g4⟩ := hcs i (by omega)
            rw [← hW, ← hV]
            exact ⟨g1, g2, g3, g4.1⟩
          have hV5 : ∀ i, i < n → mL MR 5 (12 * s + i) = V i := fun i _ => by rw [← hV]
          have h6 : ∀ k, k < n → κ t = 6 → okF 6 (mL MR 5 (12 * t + k)) := fun k hk z => f6_of hTt (by omega) z
          rcases first_or (fun k => sX0_widens (nI (κ t)) (kin (W k) (V k))) n with hall | ⟨m, m1, m2, m3⟩
          · have hKx : ∀ k, k < n → ∃ j, j < 8 ∧ kin (W k) (V k) = nI j ∧ rin (W k) (V k) = nI j ∧ sX6_turns (nI (κ t)) (nI j) = true := fun k hk => by
              rcases sch_cases q2 (W k) (V k) with ⟨-, g⟩ | ⟨g, -⟩
              · exact g
              · have := hall k hk
                rw [g] at this
                cases this
            obtain ⟨K, hK⟩ : ∃ K : Nat → Nat, ∀ k, k < n → K k < 8 ∧ kin (W k) (V k) = nI (K k) ∧ rin (W k) (V k) = nI (K k) ∧ sX6_turns (nI (κ t)) (nI (K k)) = true := by
              refine ⟨fun k => (kin (W k) (V k)).toNatClampNeg, fun k hk => ?_⟩
              obtain ⟨j, j1, j2, j3⟩ := hKx k hk
              have ej : (kin (W k) (V k)).toNatClampNeg = j := by rw [j2, nI_clamp (by omega)]
              show (kin (W k) (V k)).toNatClampNeg < 8 ∧ kin (W k) (V k) = nI (kin (W k) (V k)).toNatClampNeg ∧ rin (W k) (V k) = nI (kin (W k) (V k)).toNatClampNeg ∧ sX6_turns (nI (κ t)) (nI (kin (W k) (V k)).toNatClampNeg) = true
              rw [ej]
              exact ⟨j1, j2, j3⟩
            have hlow := Rel_low hR.2.2.2.1
            have hokR : ∀ k, k < n → rin (W k) (V k) = nI (K k) ∧ K k < 8 ∧ sX6_turns (nI (κ t)) (nI (K k)) = true := fun k hk => ⟨(hK k hk).2.2.1, (hK k hk).1, (hK k hk).2.2.2⟩
            rcases free_cases hS with ef | ⟨f, hf, ef, hkf⟩
            · have h1 := sp_X5_shape_f (d := 200) (by decide) (M := MC) (s := s) (t := t) (n := n) (a := κ t) (W := W) (V := V) zsC ztC zs12 zt12 hn.symm ee hR.1 hs ht (by omega) tC (fun k hk => (hcs k hk).1) (fun k hk => (hcs k hk).2.2.2) (fun k hk => (hcs k hk).2.2.1) hall (hlow.trans ef)
              have h2 := sp_X6_shape_f (d := 200) (by decide) (M := MR) (s := s) (t := t) (n := n) (a := κ t) (W := W) (K := K) (V := V) s1 s2 (er.trans c) (by rw [kR, q]) hpl zsR ztR zs12 zt12 hn.symm hR.2.1 hs ht (by omega) tR (fun k hk => (hcs k hk).2.1) (fun k hk => (hcs k hk).2.2.2) hV5 hN hokR ef
              exact fcI h1 h2 rfl (Rel_tells hR _ _)
            · have hsf : s ≠ f := fun z => by rw [z] at ks; omega
              have htf : t ≠ f := fun z => by rw [z] at kt; omega
              have hoV : ∀ k, k < n → okV κ (K k) (wid (κ t) (K k) (mL MR 5 (12 * t + k))) := fun k hk => by
                obtain ⟨g1, -, -, g4⟩ := hK k hk
                have ho := (hct k (by omega)).2.2.2
                have hwk := ho.2.1 q2
                have hN := ho.V.2.1 (by omega)
                rw [hwk] at hN
                exact ⟨by omega, fun _ => okN_wid q2 g1 g4 hN, by omega, by omega, by omega, by omega⟩
              have h1 := sp_X5_shape_ok (d := 200) (by decide) (M := MC) (s := s) (t := t) (n := n) (a := κ t) (W := W) (V := V) zsC ztC zs12 zt12 hn.symm ee hR.1 hs ht (by omega) tC (fun k hk => (hcs k hk).1) (fun k hk => (hcs k hk).2.2.2) (fun k hk => (hcs k hk).2.2.1) hall (K := K) (U := fun k => wid (κ t) (K k) (mL MR 5 (12 * t + k))) (T := fun k => mL MR 5 (12 * t + k)) f hf (hlow.trans ef) hsf htf q2 (fun k hk => ⟨(hK k hk).2.1, (hK k hk).1⟩) (fun k hk => (hct k (by omega)).2.2.1) (fun k hk => rfl) h6 (fun k hk z => (hoV k hk).f6 z)
              have h2 := sp_X6_shape_ok (d := 200) (by decide) (M := MR) (s := s) (t := t) (n := n) (a := κ t) (W := W) (K := K) (V := V) s1 s2 (er.trans c) (by rw [kR, q]) hpl zsR ztR zs12 zt12 hn.symm hR.2.1 hs ht (by omega) tR (fun k hk => (hcs k hk).2.1) (fun k hk => (hcs k hk).2.2.2) hV5 hN hokR (U := fun k => wid (κ t) (K k) (mL MR 5 (12 * t + k))) (T := fun k => mL MR 5 (12 * t + k)) f hf ef hsf htf q2 (fun k hk => rfl) (fun k hk => rfl) h6
              exact fcI h1 h2 rfl (Rel_tells (Rel_conv hR hS hf hkf (by decide) (by omega) hoV (fun k hk => tkB_12 _ _ _)) _ _)
          · have hKx : ∀ k, k < m → ∃ j, j < 8 ∧ rin (W k) (V k) = nI j ∧ sX6_turns (nI (κ t)) (nI j) = true := fun k hk => by
              rcases sch_cases q2 (W k) (V k) with ⟨-, j, g1, g2, g3, g4⟩ | ⟨g, -⟩
              · exact ⟨j, g1, g3, g4⟩
              · have := m3 k hk
                rw [g] at this
                cases this
            have hf : rin (W m) (V m) < 0 ∨ (∃ k, k < 16 ∧ 8 ≤ k ∧ rin (W m) (V m) = nI k) ∨ (∃ k, k < 8 ∧ rin (W m) (V m) = nI k ∧ sX6_turns (nI (κ t)) (nI k) = false) := by
              rcases sch_cases q2 (W m) (V m) with ⟨g, -⟩ | ⟨-, g⟩
              · rw [m2] at g; cases g
              · exact g
            have h1 := sp_X5_shape_k (d := 200) (by decide) (M := MC) (s := s) (t := t) (n := n) (a := κ t) (W := W) (V := V) zsC ztC zs12 zt12 hn.symm ee hR.1 hs ht (by omega) tC (fun k hk => (hcs k hk).1) (fun k hk => (hcs k hk).2.2.2) (fun k hk => (hcs k hk).2.2.1) m m1 m2 m3
            have h2 := sp_X6_shape_k (d := 200) (by decide) (M := MR) (s := s) (t := t) (n := n) (a := κ t) (W := W) (K := fun k => (rin (W k) (V k)).toNatClampNeg) (V := V) s1 s2 (er.trans c) (by rw [kR, q]) hpl zsR ztR zs12 zt12 hn.symm hR.2.1 hs ht (by omega) tR (fun k hk => (hcs k hk).2.1) (fun k hk => (hcs k hk).2.2.2) hV5 hN m m1 hf (fun k hk => by
              obtain ⟨j, j1, j2, j3⟩ := hKx k hk
              have ej : (rin (W k) (V k)).toNatClampNeg = j := by rw [j2, nI_clamp (by omega)]
              show rin (W k) (V k) = nI (rin (W k) (V k)).toNatClampNeg ∧ (rin (W k) (V k)).toNatClampNeg < 8 ∧ _
              rw [ej]
              exact ⟨j2, j1, j3⟩)
            exact fcI h1 h2 rfl (Rel_tells hR _ _)
        · rw [if_neg q2] at ee
          rw [decide_eq_false q2] at hpl
          exact fcI (sp_X5_shape_e (by decide) (nI s) (nI t) (-7) hR.1 ee (by decide)) (sp_X6_shape_o (by decide) s t hR.2.1 hs ht s1 s2 (er.trans c) (κ s) kR (by omega) q hpl) rfl (Rel_tells hR _ _)
      · rw [if_neg q] at ee
        exact fcI (sp_X5_shape_e (by decide) (nI s) (nI t) (-2) hR.1 ee (by decide)) (sp_X6_shape_n (by decide) s t hR.2.1 hs ht s1 s2 (er.trans c) (κ s) kR (by omega) q) rfl (Rel_tells hR _ _)
    · have e2 : sX5_shapeError MC (nI s) (nI t) = sX5_firstError (eA (κ s)) (eA (κ t)) := by
        unfold sX5_shapeError
        rw [e, if_neg c]
      exact fcI (sp_X5_shape_e (by decide) (nI s) (nI t) _ hR.1 e2 c) (sp_X6_shape_e (by decide) s t hR.2.1 hs ht s1 s2 _ er (f2 c)) rfl (Rel_tells hR _ _)
