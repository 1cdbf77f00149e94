-- A VALUE IN A CELL: both sides
def okV (κ : Nat → Nat) (w : Nat) (v : Int64) : Prop := w < 12 ∧ (w < 8 → okN w v) ∧ (w = 8 → wrd v = true) ∧ (w = 9 → ∃ b, b < 6 ∧ v = lN b) ∧ (w = 10 → ∃ u, u < 12 ∧ v = lN u ∧ κ u < 14) ∧ (w = 11 → v = 0)
theorem okC.V {κ : Nat → Nat} {k w : Nat} {v : Int64} (h : okC κ k w v) : okV κ w v := by
  obtain ⟨h1, -, -, -, -, -, -, h8, h9, h10, h11, h12⟩ := h
  refine ⟨h1, h8, h9, h10, fun z => ?_, h12⟩
  obtain ⟨u, u1, u2, u3, -⟩ := h11 z
  exact ⟨u, u1, u2, u3⟩
theorem isIn_mono {v a b a' b' : Int64} (h : sX6_isIn v a b = true) (h1 : a'.toInt ≤ a.toInt) (h2 : b.toInt ≤ b'.toInt) : sX6_isIn v a' b' = true := by
  unfold sX6_isIn at h ⊢
  by_cases c1 : v < a
  · rw [if_pos c1] at h; cases h
  · by_cases c2 : b < v
    · rw [if_neg c1, if_pos c2] at h; cases h
    · have g1 : ¬ v.toInt < a.toInt := fun z => c1 (Int64.lt_iff_toInt_lt.mpr z)
      have g2 : ¬ b.toInt < v.toInt := fun z => c2 (Int64.lt_iff_toInt_lt.mpr z)
      rw [if_neg (fun z => by have := Int64.lt_iff_toInt_lt.mp z; omega), if_neg (fun z => by have := Int64.lt_iff_toInt_lt.mp z; omega)]
theorem num_67 {k : Nat} (hk : 5 ≤ k ∧ k < 8) (v : Int64) : sX6_isNumber (nI k) v = true := by
  obtain ⟨h1, h2⟩ := hk
  have : k = 5 ∨ k = 6 ∨ k = 7 := by omega
  rcases this with rfl | rfl | rfl <;> rfl
theorem okF_7 {v : Int64} (h : okF 6 v) : okF 7 (fb 7 (unf v)) := ⟨unf v, isD_67 (unf_s h).1, (unf_s h).2.1, rfl⟩
def tlB (w k : Nat) : Bool := decide (w = k) || (decide (k = 3 ∧ w = 1) || (decide (k = 4 ∧ 1 ≤ w ∧ w ≤ 3) || (decide (k = 5) || (decide (k = 6 ∧ w < 6) || decide (k = 7 ∧ w < 7)))))
theorem turns_b : ∀ w, w < 8 → ∀ k, k < 8 → sX6_turns (nI w) (nI k) = true → tlB w k = true := by decide
theorem turns_l (w : Nat) (hw : w < 8) (k : Nat) (hk : k < 8) (h : sX6_turns (nI w) (nI k) = true) : w = k ∨ (k = 3 ∧ w = 1) ∨ (k = 4 ∧ 1 ≤ w ∧ w ≤ 3) ∨ k = 5 ∨ (k = 6 ∧ w < 6) ∨ (k = 7 ∧ w < 7) := by
  have := turns_b w hw k hk h
  unfold tlB at this
  simp only [Bool.or_eq_true, decide_eq_true_eq] at this
  exact this
theorem okN_wid {w k : Nat} {v : Int64} (hw : w < 8) (hk : k < 8) (ht : sX6_turns (nI w) (nI k) = true) (h : okN w v) : okN k (wid w k v) := by
  unfold wid
  rcases turns_l w hw k hk ht with e | ⟨rfl, rfl⟩ | ⟨rfl, e⟩ | e | ⟨rfl, e⟩ | ⟨rfl, e⟩
  · rw [if_pos (Or.inl e), ← e]
    exact h
  · rw [if_pos (Or.inr (by decide))]
    exact ⟨isIn_mono (a := -128) (b := 127) h.1 (by decide) (by decide), fun z => absurd z (by decide)⟩
  · rw [if_pos (Or.inr (by decide))]
    refine ⟨?_, fun z => absurd z (by decide)⟩
    have e : w = 1 ∨ w = 2 ∨ w = 3 := by omega
    rcases e with rfl | rfl | rfl
    · exact isIn_mono (a := -128) (b := 127) h.1 (by decide) (by decide)
    · exact isIn_mono (a := 0) (b := 65535) h.1 (by decide) (by decide)
    · exact isIn_mono (a := -32768) (b := 32767) h.1 (by decide) (by decide)
  · subst e
    rw [if_pos (Or.inr (by decide))]
    exact ⟨num_67 (by decide) _, fun z => absurd z (by decide)⟩
  · rw [if_neg (by omega), if_neg (by omega), if_pos rfl]
    exact ⟨num_67 (by decide) _, fun _ => ⟨_, (wd6 v).1, (wd6 v).2.1, rfl⟩⟩
  · rw [if_neg (by omega)]
    refine ⟨num_67 (by decide) _, fun _ => ?_⟩
    by_cases c : w = 6
    · rw [if_pos c]
      exact okF_7 (by have := h.2 (Or.inl c); rw [c] at this; exact this)
    · rw [if_neg c, if_neg (by decide)]
      exact ⟨_, (wd7 v).1, (wd7 v).2, rfl⟩
theorem okN_psd {k : Nat} {v : Int64} (hk : k < 8) (h : sX6_isNumber (nI k) v = true) : okN k (psd k v) := by
  unfold psd
  by_cases c6 : k = 6
  · rw [if_pos c6]
    subst c6
    exact ⟨num_67 (by decide) _, fun _ => ⟨_, (gv6 v).1, (gv6 v).2.1, rfl⟩⟩
  · rw [if_neg c6]
    by_cases c7 : k = 7
    · rw [if_pos c7]
      subst c7
      exact ⟨num_67 (by decide) _, fun _ => ⟨_, (gv7 v).1, (gv7 v).2.1, rfl⟩⟩
    · rw [if_neg c7]
      exact ⟨h, fun z => by omega⟩
theorem psd_o {k : Nat} (h : 8 ≤ k) (v : Int64) : psd k v = v := by
  unfold psd
  rw [if_neg (by omega), if_neg (by omega)]
theorem okV.f6 {κ : Nat → Nat} {w : Nat} {v : Int64} (h : okV κ w v) (e : w = 6) : okF 6 v := by
  have := (h.2.1 (by omega)).2 (Or.inl e)
  rw [e] at this
  exact this
theorem okC_tk {κ : Nat → Nat} {k w : Nat} {v : Int64} {x : Bool} (h : okV κ w v) (hk : k < 14) (ht : tkB x k w v = true) (hx : k = 13 → x = true → ∀ u, u < 12 → v = lN u → κ u = 4) : okC κ k (hwt k w) (hvl k w v) := by
  obtain ⟨h1, h2, h3, h4, h5, h6⟩ := h
  unfold hwt hvl
  unfold tkB at ht
  by_cases c : k < 8
  · rw [if_pos c] at ht
    rw [if_pos c, if_pos c]
    rw [Bool.and_eq_true] at ht
    have hw := of_decide_eq_true ht.1
    exact ⟨by omega, fun _ => rfl, by omega, by omega, by omega, by omega, by omega, fun _ => okN_wid hw c ht.2 (h2 hw), by omega, by omega, by omega, by omega⟩
  · rw [if_neg c] at ht
    rw [if_neg c, if_neg c]
    refine ⟨h1, fun z => absurd z c, ?_, ?_, ?_, ?_, ?_, h2, h3, h4, fun z => ?_, h6⟩
    · intro e
      subst e
      by_cases q : w = 11
      · exact Or.inr q
      · rw [if_neg (by omega), if_pos rfl] at ht
        exact Or.inl (of_decide_eq_true ht)
    · intro e
      subst e
      by_cases q : w = 11
      · exact Or.inr q
      · rw [if_neg (by omega), if_neg (by decide), if_pos rfl] at ht
        exact Or.inl (of_decide_eq_true ht)
    · intro e
      subst e
      by_cases q : w = 11
      · exact Or.inr q
      · rw [if_neg (by omega), if_neg (by decide), if_neg (by decide), if_pos rfl] at ht
        exact Or.inl (of_decide_eq_true ht)
    · intro e
      subst e
      by_cases q : w = 11
      · exact Or.inr q
      · rw [if_neg (by omega), if_neg (by decide), if_neg (by decide), if_neg (by decide), if_pos rfl, Bool.and_eq_true] at ht
        exact Or.inl ⟨of_decide_eq_true ht.1, of_decide_eq_true ht.2⟩
    · intro e
      subst e
      by_cases q : w = 11
      · exact Or.inr q
      · rw [if_neg (by omega), if_neg (by decide), if_neg (by decide), if_neg (by decide), if_neg (by decide), Bool.and_eq_true] at ht
        exact Or.inl (of_decide_eq_true ht.1)
    · obtain ⟨u, u1, u2, u3⟩ := h5 z
      refine ⟨u, u1, u2, u3, fun e => ?_⟩
      subst e
      rw [if_neg (by omega), if_neg (by decide), if_neg (by decide), if_neg (by decide), if_neg (by decide), Bool.and_eq_true] at ht
      exact hx rfl ht.2 u u1 u2
-- what the class accepts
def accB (b3 bs bk : Bool) (x1 x2 : Int32) : Bool := (if x1 = 8 then (if x2 = 4 then true else (if x2 = 11 then true else false)) else (if x1 = 9 then (if x2 = 8 then true else (if x2 = 11 then true else false)) else (if x1 = 10 then (if x2 = 9 then true else (if x2 = 11 then true else false)) else (if x1 = 11 then (if x2 = 9 then (if b3 = true then true else (if x2 = 11 then true else false)) else (if x2 = 11 then true else false)) else (if x1 = 12 then true else (if x1 = 13 then (if x2 = 10 then (if (bz bs) = 0 then (if x2 = 11 then true else false) else (if bk = true then true else (if x2 = 11 then true else false))) else (if x2 = 11 then true else false)) else (sX0_widens x2 x1)))))))
theorem acc_eq (M : xM) (x1 x2 : Int32) (x3 : Int64) : sX5_accepts M x1 x2 x3 = accB (decide (3 ≤ x3)) (sX5_isSlot x3) (decide ((mI M (54 + 3 * ((Int64.toInt32 x3).toNatClampNeg)) 0) = 4)) x1 x2 := by
  unfold sX5_accepts accB
  simp only [decide_eq_true_eq]
def tkD (b3 x : Bool) (k w : Nat) : Bool := if k < 8 then decide (w < 8) && sX6_turns (nI w) (nI k) else if w = 11 ∨ k = 12 then true else if k = 8 then decide (w = 4) else if k = 9 then decide (w = 8) else if k = 10 then decide (w = 9) else if k = 11 then decide (w = 9) && b3 else decide (w = 10) && x
theorem acc_dec : ∀ k, k < 14 → ∀ w, w < 12 → ∀ b3 x : Bool, accB b3 true x (nI k) (nI w) = tkD b3 x k w ∧ (w ≠ 10 → ∀ y z : Bool, accB b3 y x (nI k) (nI w) = tkD b3 z k w) := by decide +kernel
theorem acc_of {MC MR : xM} {κ ζ : Nat → Nat} (hS : ∀ t, t < 12 → RelT MC MR κ ζ t) {k w : Nat} {v : Int64} (hk : k < 14) (hw : w < 12) (hv : w = 10 → ∃ u, u < 12 ∧ v = lN u) : sX5_accepts MC (nI k) (nI w) v = tkB (kd4 MR v) k w v := by
  rw [acc_eq, show tkB (kd4 MR v) k w v = tkD (decide (3 ≤ v)) (kd4 MR v) k w from rfl]
  by_cases c : w = 10
  · obtain ⟨u, u1, u2⟩ := hv c
    have e1 : sX5_isSlot v = true := by
      rw [u2]
      exact (by decide +kernel : ∀ u, u < 12 → sX5_isSlot (lN u) = true) u u1
    have e2 : decide (mI MC (54 + 3 * ((Int64.toInt32 v).toNatClampNeg)) 0 = 4) = kd4 MR v := by
      unfold kd4
      rw [u2, l32 u1, nI_clamp (by omega), (hS u u1).2.2.1, (hS u u1).2.2.2.1]
    rw [e1, e2]
    exact (acc_dec k hk w hw _ _).1
  · exact (acc_dec k hk w hw _ _).2 c _ _
theorem kd4_of {MC MR : xM} {κ ζ : Nat → Nat} (hS : ∀ t, t < 12 → RelT MC MR κ ζ t) {v : Int64} (h : kd4 MR v = true) : ∀ u, u < 12 → v = lN u → κ u = 4 := by
  intro u hu e
  unfold kd4 at h
  have h := of_decide_eq_true h
  rw [e, l32 hu, nI_clamp (by omega), (hS u hu).2.2.2.1] at h
  exact (by decide : ∀ k, k ≤ 16 → kdI k = 4 → k = 4) _ (hS u hu).1 h
theorem mLv (M : xM) (a k : Nat) (v : Int64) : mL (stL M a k v) a k = v := xup_s M.2.1 a k v
theorem mLo (M : xM) (a b : Nat) {k j : Nat} (v : Int64) (h : j ≠ k) : mL (stL M a k v) b j = mL M b j := xup_k M.2.1 a v h b
-- a cell is set on both sides
def celM (M : xM) (c : Nat) (x : Int32) (v : Int64) : xM := stL (stI M 4 c x) 5 c v
theorem Rel_cell {MC MR : xM} (hR : Rel MC MR) {κ ζ : Nat → Nat} (hS : ∀ t, t < 12 → RelT MC MR κ ζ t) {t i w : Nat} {v : Int64} (ht : t < 12) (hi : i < ζ t) (ho : okC κ (κ t) w v) : Rel (filM MC (54 + 3 * t) i (nI w) v) (celM MR (12 * t + i) (nI w) v) ∧ ∀ u, u < 12 → RelT (filM MC (54 + 3 * t) i (nI w) v) (celM MR (12 * t + i) (nI w) v) κ ζ u := by
  obtain ⟨h1, h2, h3, -, ⟨len, pos, b1, b2, b3, b4, b5, b6, b7⟩, ⟨⟨m, hm, m1, m2⟩, o1, o2, o3, o4⟩⟩ := hR
  have hz := (hS t ht).2.1
  have cI : ∀ a, a ≠ 54 + 3 * t + 1 → mI (filM MC (54 + 3 * t) i (nI w) v) a = mI MC a := fun a ha => by unfold filM; rw [mI_stL_c, mI_stI_c _ _ _ ha]
  have cL : ∀ a, a ≠ 54 + 3 * t + 2 → mL (filM MC (54 + 3 * t) i (nI w) v) a = mL MC a := fun a ha => by unfold filM; rw [mL_stL_c _ _ _ ha, mL_stI_c]
  have rI : ∀ a, a ≠ 4 → mI (celM MR (12 * t + i) (nI w) v) a = mI MR a := fun a ha => by unfold celM; rw [mI_stL_c, mI_stI_c _ _ _ ha]
  have rL : ∀ a, a ≠ 5 → mL (celM MR (12 * t + i) (nI w) v) a = mL MR a := fun a ha => by unfold celM; rw [mL_stL_c _ _ _ ha, mL_stI_c]
  have hT : ∀ u, u < 12 → RelT (filM MC (54 + 3 * t) i (nI w) v) (celM MR (12 * t + i) (nI w) v) κ ζ u := by
    intro u hu
    obtain ⟨g1, g2, g3, g4, g5, g6, g7, g8, g9⟩ := hS u hu
    unfold RelT
    rw [cI _ (by omega), rI 1 (by decide), rI 2 (by decide), rL 3 (by decide)]
    refine ⟨g1, g2, g3, g4, g5, g6, g7, fun z1 z2 => ?_, fun j hj => ?_⟩
    · by_cases c : u = t
      · subst c
        have := g7 z1
        omega
      · rw [cL _ (by omega)]; exact g8 z1 z2
    · by_cases c : u = t ∧ j = i
      · obtain ⟨rfl, rfl⟩ := c
        have e1 : mI (filM MC (54 + 3 * u) j (nI w) v) (54 + 3 * u + 1) j = nI w := by unfold filM; rw [mI_stL_c, mI_stI_v]
        have e2 : mL (filM MC (54 + 3 * u) j (nI w) v) (54 + 3 * u + 2) j = v := by unfold filM; exact mLv _ _ _ _
        have e3 : mI (celM MR (12 * u + j) (nI w) v) 4 (12 * u + j) = nI w := by unfold celM; rw [mI_stL_c, mI_stI_v]
        have e4 : mL (celM MR (12 * u + j) (nI w) v) 5 (12 * u + j) = v := by unfold celM; exact mLv _ _ _ _
        rw [e1, e2, e3, e4]
        exact ⟨rfl, rfl, w, rfl, ho⟩
      · have e1 : mI (filM MC (54 + 3 * t) i (nI w) v) (54 + 3 * u + 1) j = mI MC (54 + 3 * u + 1) j := by
          by_cases d : u = t
          · subst d
            unfold filM
            rw [mI_stL_c, mI_stI_o _ _ _ _ (by omega)]
          · rw [cI _ (by omega)]
        have e2 : mL (filM MC (54 + 3 * t) i (nI w) v) (54 + 3 * u + 2) j = mL MC (54 + 3 * u + 2) j := by
          by_cases d : u = t
          · subst d
            unfold filM
            rw [mLo _ _ _ _ (by omega), mL_stI_c]
          · rw [cL _ (by omega)]
        have e3 : mI (celM MR (12 * t + i) (nI w) v) 4 (12 * u + j) = mI MR 4 (12 * u + j) := by
          unfold celM
          rw [mI_stL_c, mI_stI_o _ _ _ _ (by omega)]
        have e4 : mL (celM MR (12 * t + i) (nI w) v) 5 (12 * u + j) = mL MR 5 (12 * u + j) := by
          unfold celM
          rw [mLo _ _ _ _ (by omega), mL_stI_c]
        rw [e1, e2, e3, e4]
        exact g9 j hj
  refine ⟨⟨(sT_X2_fill MC _ _ _ _).TC h1, ((sT.I MR _ _ _).tr (sT.L _ _ _ _)).TR h2, h3.k (rI 2 (by decide)), ⟨κ, ζ, hT⟩, ⟨len, pos, b1, b2, ?_, ?_, ?_, ?_, ?_⟩, ⟨m, hm, ?_, ?_⟩, ?_, ?_, ?_, ?_⟩, hT⟩
  · rw [cI 2 (by omega)]; exact b3
  · rw [rI 0 (by decide)]; exact b4
  · rw [cI 0 (by omega)]; exact b5
  · rw [rI 0 (by decide)]; exact b6
  · intro j hj
    rw [cI 3 (by omega), rI 6 (by decide)]; exact b7 j hj
  · rw [cI 0 (by omega)]; exact m1
  · rw [rI 0 (by decide)]; exact m2
  · rw [cI 0 (by omega), rI 0 (by decide)]; exact o1
  · rw [cI 0 (by omega), rI 0 (by decide)]; exact o2
  · intro k hk
    rw [cI 53 (by omega), rI 7 (by decide)]; exact o3 k hk
  · intro k hk
    rw [rL 18 (by decide)]; exact o4 k hk
theorem tkM_I (M : xM) (x : Int32) (y : Int64) {a : Nat} (h : a ≠ 0) : mI (tkM M x y) a = mI M a := by unfold tkM; rw [mI_stL_c, mI_stI_c _ _ _ h]
theorem tkM_I0 (M : xM) (x : Int32) (y : Int64) {k : Nat} (h : k ≠ 27) : mI (tkM M x y) 0 k = mI M 0 k := by unfold tkM; rw [mI_stL_c, mI_stI_o _ _ _ _ h]
theorem tkM_L (M : xM) (x : Int32) (y : Int64) {a : Nat} (h : a ≠ 0) : mL (tkM M x y) a = mL M a := by unfold tkM; rw [mL_stL_c _ _ _ h, mL_stI_c]
theorem tkM_27 (M : xM) (x : Int32) (y : Int64) : mI (tkM M x y) 0 27 = x ∧ mL (tkM M x y) 0 28 = y := by
  unfold tkM
  exact ⟨by rw [mI_stL_c, mI_stI_v], mLv _ _ _ _⟩
/-- the relation looks at no scratch of the reference -/
theorem Rel_scr {MC MR MR' : xM} (hR : Rel MC MR) (hT : sT MR MR') (hI : ∀ a, 1 ≤ a → a ≤ 7 → mI MR' a = mI MR a) (hL : ∀ a, 1 ≤ a → mL MR' a = mL MR a) (h0 : ∀ k, 6 ≤ k → k ≤ 10 → mI MR' 0 k = mI MR 0 k) : Rel MC MR' ∧ ∀ κ ζ t, RelT MC MR κ ζ t → RelT MC MR' κ ζ t := by
  obtain ⟨h1, h2, h3, ⟨κ, ζ, h4⟩, ⟨len, pos, b1, b2, b3, b4, b5, b6, b7⟩, ⟨⟨m, hm, m1, m2⟩, o1, o2, o3, o4⟩⟩ := hR
  have hr : ∀ κ ζ t, RelT MC MR κ ζ t → RelT MC MR' κ ζ t := by
    intro κ ζ t h
    unfold RelT at h ⊢
    rw [hI 1 (by decide) (by decide), hI 2 (by decide) (by decide), hL 3 (by decide), hI 4 (by decide) (by decide), hL 5 (by decide)]
    exact h
  refine ⟨⟨h1, hT.TR h2, h3.k (hI 2 (by decide) (by decide)), ⟨κ, ζ, fun t ht => hr _ _ _ (h4 t ht)⟩, ⟨len, pos, b1, b2, b3, ?_, b5, ?_, ?_⟩, ⟨m, hm, m1, ?_⟩, ?_, ?_, ?_, ?_⟩, hr⟩
  · rw [h0 6 (by decide) (by decide)]; exact b4
  · rw [h0 7 (by decide) (by decide)]; exact b6
  · intro i hi
    rw [hI 6 (by decide) (by decide)]; exact b7 i hi
  · rw [h0 8 (by decide) (by decide)]; exact m2
  · rw [h0 9 (by decide) (by decide)]; exact o1
  · rw [h0 10 (by decide) (by decide)]; exact o2
  · intro k hk
    rw [hI 7 (by decide) (by decide)]; exact o3 k hk
  · intro k hk
    rw [hL 18 (by decide)]; exact o4 k hk
theorem Rel_tk {MC MR : xM} (hR : Rel MC MR) (x : Int32) (y : Int64) : Rel MC (tkM MR x y) ∧ ∀ κ ζ t, RelT MC MR κ ζ t → RelT MC (tkM MR x y) κ ζ t :=
  Rel_scr hR (sT_tkM _ _ _) (fun a h _ => tkM_I _ _ _ (by omega)) (fun a h => tkM_L _ _ _ (by omega)) (fun k h1 h2 => tkM_I0 _ _ _ (by omega))
