-- MAKE: the relation behind it
theorem beaM_oI (M : xM) (a : Nat) (x : Int32) (z : Nat) {b : Nat} (h1 : b ≠ a) (h2 : b ≠ a + 1) : mI (beaM M a x z) b = mI M b := by
  unfold beaM
  rw [mI_flL, mI_flI_ne _ h2, mI_stI_c _ _ _ h1, mI_stI_c _ _ _ h1]
theorem beaM_oL (M : xM) (a : Nat) (x : Int32) (z : Nat) {b : Nat} (h : b ≠ a + 2) : mL (beaM M a x z) b = mL M b := by
  unfold beaM
  rw [mL_flL_ne _ h, mL_flI]
  rfl
theorem beaM_0 (M : xM) (a : Nat) (x : Int32) (z : Nat) : mI (beaM M a x z) a 0 = x := by
  unfold beaM
  rw [mI_flL, mI_flI_ne _ (by omega), mI_stI_o _ _ _ _ (by decide), mI_stI_v]
theorem beaM_1 (M : xM) (a : Nat) (x : Int32) (z : Nat) : mI (beaM M a x z) a 1 = nI z := by
  unfold beaM
  rw [mI_flL, mI_flI_ne _ (by omega), mI_stI_v]
theorem beaM_w (M : xM) (a : Nat) (x : Int32) (z : Nat) {i : Nat} (h : i < z) : mI (beaM M a x z) (a + 1) i = if sX0_isKind x = true then x else 11 := by
  unfold beaM
  have e := mI_flI_at (stI (stI M a 0 x) a 1 (nI z)) (a := a + 1) (lo := 0) (g := fun _ => if sX0_isKind x = true then x else 11) h
  rw [Nat.zero_add] at e
  rw [mI_flL]
  exact e
theorem beaM_v (M : xM) (a : Nat) (x : Int32) (z : Nat) {i : Nat} (h : i < z) : mL (beaM M a x z) (a + 2) i = 0 := by
  unfold beaM
  have e := mL_flL_at (flI (stI (stI M a 0 x) a 1 (nI z)) (a + 1) 0 z (fun _ => if sX0_isKind x = true then x else 11)) (a := a + 2) (lo := 0) (g := fun _ => (0 : Int64)) h
  rw [Nat.zero_add] at e
  exact e
theorem blank_of : ∀ k, k < 14 → (if sX0_isKind (nI k) = true then nI k else 11) = nI (if k < 8 then k else 11) ∧ rFl (nI k) = nI (if k < 8 then k else 11) ∧ (k < 8 → sX6_isNumber (nI k) 0 = true) := by decide
theorem okC_blank (κ : Nat → Nat) {k : Nat} (hk : k < 14) : okC κ k (if k < 8 then k else 11) 0 := by
  have hb := (blank_of k hk).2.2
  by_cases c : k < 8
  · rw [if_pos c]
    exact ⟨by omega, fun _ => rfl, by omega, by omega, by omega, by omega, by omega, fun _ => ⟨hb c, fun _ => okF_0 k⟩, by omega, by omega, by omega, by omega⟩
  · rw [if_neg c]
    exact ⟨by omega, fun q => absurd q c, fun _ => Or.inr rfl, fun _ => Or.inr rfl, fun _ => Or.inr rfl, fun _ => Or.inr rfl, fun _ => Or.inr rfl, fun q => absurd q (by decide), fun q => absurd q (by decide), fun q => absurd q (by decide), fun q => absurd q (by decide), fun _ => rfl⟩
theorem LenR_beg {M : xM} (h : LenR M) (t : Nat) (x : Int32) {z : Nat} (hz : z ≤ 12) : LenR (begM M t x (nI z)) := by
  intro u hu
  rw [begM_2]
  by_cases c : u = t
  · rw [if_pos c]; exact ⟨z, hz, rfl⟩
  · rw [if_neg c]; exact h u hu
theorem Rel_makeA {MC MR : xM} (hR : Rel MC MR) {κ ζ : Nat → Nat} (hS : ∀ t, t < 12 → RelT MC MR κ ζ t) {t k z : Nat} (he : κ t = 16) (hk : k < 14) (hz : z ≤ 12) : Rel (beaM MC (54 + 3 * t) (nI k) z) (stL (begM MR t (nI k) (nI z)) 3 t 0) := by
  refine Rel_new (k := k) (z := z) hR hS he ((sT_X2_beArray _ _ _ _).TC hR.1) (((sT_X6_begins _ _ _ _).tr (sT.L _ _ _ _)).TR hR.2.1) (LenR_beg hR.2.2.1 t _ hz) (fun a h1 h2 h3 => ⟨beaM_oI _ _ _ _ h1 h2, beaM_oL _ _ _ _ h3⟩) (fun u hu => ⟨?_, ?_, ?_, fun i hi => ⟨?_, ?_⟩⟩) (fun a ha => ⟨?_, ?_⟩) ?_
  · rw [mI_stL_c, begM_1, if_neg hu]
  · rw [mI_stL_c, begM_2, if_neg hu]
  · rw [mL_stL_o _ _ _ _ hu, begM_3o _ _ _ _ hu]
  · rw [mI_stL_c, begM_4o _ _ _ _ hu hi]
  · rw [mL_stL_c _ _ _ (by decide), begM_5o _ _ _ _ hu hi]
  · rw [mI_stL_c, begM_oI _ _ _ _ ha]
  · rw [mL_stL_c _ _ _ (by omega), begM_oL _ _ _ _ ha]
  · unfold RelT
    rw [updN_s, updN_s]
    obtain ⟨q1, q2, -⟩ := blank_of k hk
    refine ⟨by omega, hz, ?_, ?_, beaM_1 _ _ _ _, fun _ => ?_, fun q => absurd q (by omega), fun q => absurd q (by omega), fun i hi => ⟨?_, ?_, ?_⟩⟩
    · rw [beaM_0, kdI_lt (by omega)]
    · rw [mI_stL_c, begM_1, if_pos rfl, kdI_lt (by omega)]
    · rw [mI_stL_c, begM_2, if_pos rfl]
    · rw [beaM_w _ _ _ _ hi, mI_stL_c, begM_4 _ _ _ _ (by omega), q1, q2]
    · rw [beaM_v _ _ _ _ hi, mL_stL_c _ _ _ (by decide), begM_5 _ _ _ _ (by omega)]
    · refine ⟨if k < 8 then k else 11, ?_, ?_⟩
      · rw [mI_stL_c, begM_4 _ _ _ _ (by omega), q2]
      · rw [mL_stL_c _ _ _ (by decide), begM_5 _ _ _ _ (by omega)]
        exact okC_blank _ hk
theorem Rel_makeT {MC MR : xM} (hR : Rel MC MR) {κ ζ : Nat → Nat} (hS : ∀ t, t < 12 → RelT MC MR κ ζ t) {t k : Nat} {v : Int64} (he : κ t = 16) (hk : 14 ≤ k) (hk2 : k < 16) (hv : okT k v) : Rel (tX2_beThing MC (54 + 3 * t) (nI k) v) (stL (begM MR t (nI k) 0) 3 t v) := by
  unfold tX2_beThing
  refine Rel_new (k := k) (z := 0) hR hS he (((((sT.rf MC).tr (sT.I _ _ _ _)).tr (sT.I _ _ _ _)).tr (sT.L _ _ _ _)).TC hR.1) (((sT_X6_begins _ _ _ _).tr (sT.L _ _ _ _)).TR hR.2.1) (LenR_beg hR.2.2.1 t _ (z := 0) (by decide)) (fun a h1 h2 h3 => ⟨?_, ?_⟩) (fun u hu => ⟨?_, ?_, ?_, fun i hi => ⟨?_, ?_⟩⟩) (fun a ha => ⟨?_, ?_⟩) ?_
  · rw [mI_stL_c, mI_stI_c _ _ _ h1, mI_stI_c _ _ _ h1]
  · rw [mL_stL_c _ _ _ h3, mL_stI_c, mL_stI_c]
  · rw [mI_stL_c, begM_1, if_neg hu]
  · rw [mI_stL_c, begM_2, if_neg hu]
  · rw [mL_stL_o _ _ _ _ hu, begM_3o _ _ _ _ hu]
  · rw [mI_stL_c, begM_4o _ _ _ _ hu hi]
  · rw [mL_stL_c _ _ _ (by decide), begM_5o _ _ _ _ hu hi]
  · rw [mI_stL_c, begM_oI _ _ _ _ ha]
  · rw [mL_stL_c _ _ _ (by omega), begM_oL _ _ _ _ ha]
  · unfold RelT
    rw [updN_s, updN_s]
    refine ⟨by omega, by omega, ?_, ?_, ?_, fun _ => ?_, fun _ => rfl, fun _ _ => ⟨?_, ?_⟩, fun i hi => absurd hi (Nat.not_lt_zero i)⟩
    · rw [mI_stL_c, mI_stI_o _ _ _ _ (by decide), mI_stI_v, kdI_lt hk2]
    · rw [mI_stL_c, begM_1, if_pos rfl, kdI_lt hk2]
    · rw [mI_stL_c, mI_stI_v]; rfl
    · rw [mI_stL_c, begM_2, if_pos rfl]; rfl
    · rw [mL_stL_v, mL_stL_v]
    · rw [mL_stL_v]; exact hv
