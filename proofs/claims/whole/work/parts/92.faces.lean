-- FACES: swap
theorem RelT.k {MC MC' MR MR' : xM} {κ ζ : Nat → Nat} {t : Nat} (h : RelT MC MR κ ζ t) (h0 : ∀ k, mI MC' (54 + 3 * t) k = mI MC (54 + 3 * t) k) (h1 : ∀ k, k < 12 → mI MC' (54 + 3 * t + 1) k = mI MC (54 + 3 * t + 1) k) (h2 : ∀ k, k < 12 → mL MC' (54 + 3 * t + 2) k = mL MC (54 + 3 * t + 2) k) (r1 : mI MR' 1 t = mI MR 1 t) (r2 : mI MR' 2 t = mI MR 2 t) (r3 : mL MR' 3 t = mL MR 3 t) (r4 : ∀ i, i < 12 → mI MR' 4 (12 * t + i) = mI MR 4 (12 * t + i)) (r5 : ∀ i, i < 12 → mL MR' 5 (12 * t + i) = mL MR 5 (12 * t + i)) : RelT MC' MR' κ ζ t := by
  obtain ⟨g1, g2, g3, g4, g5, g6, g7, g8, g9⟩ := h
  refine ⟨g1, g2, (h0 0).trans g3, r1.trans g4, (h0 1).trans g5, fun q => r2.trans (g6 q), g7, fun q1 q2 => ?_, fun i hi => ?_⟩
  · rw [h2 0 (by omega), r3]; exact g8 q1 q2
  · rw [h1 i (by omega), h2 i (by omega), r4 i (by omega), r5 i (by omega)]; exact g9 i hi
/-- a place's new content when two places change theirs -/
def exn {α : Type} (f : Nat → α) (p q i : Nat) : α := if i = q then f p else if i = p then f q else f i
theorem exn_cases {α : Type} (f : Nat → α) (p q i : Nat) : ∃ j, (j = p ∨ j = q ∨ j = i) ∧ ∀ g : Nat → α, True → exn f p q i = f j := by
  unfold exn
  by_cases c1 : i = q
  · exact ⟨p, Or.inl rfl, fun _ _ => if_pos c1⟩
  · by_cases c2 : i = p
    · exact ⟨q, Or.inr (Or.inl rfl), fun _ _ => by rw [if_neg c1, if_pos c2]⟩
    · exact ⟨i, Or.inr (Or.inr rfl), fun _ _ => by rw [if_neg c1, if_neg c2]⟩
def exj (p q i : Nat) : Nat := if i = q then p else if i = p then q else i
theorem exn_j {α : Type} (f : Nat → α) (p q i : Nat) : exn f p q i = f (exj p q i) := by
  unfold exn exj
  by_cases c1 : i = q
  · rw [if_pos c1, if_pos c1]
  · rw [if_neg c1, if_neg c1]
    by_cases c2 : i = p
    · rw [if_pos c2, if_pos c2]
    · rw [if_neg c2, if_neg c2]
theorem exj_lt {p q i z : Nat} (hp : p < z) (hq : q < z) (hi : i < z) : exj p q i < z := by
  unfold exj
  split
  · exact hp
  · split
    · exact hq
    · exact hi
theorem excM_I (M : xM) (a p q i : Nat) : mI (excM M a p q) (a + 1) i = exn (mI M (a + 1)) p q i := by
  unfold excM filM exn
  by_cases c1 : i = q
  · subst c1
    rw [if_pos rfl, mI_stL_c, mI_stI_v]
  · rw [if_neg c1, mI_stL_c, mI_stI_o _ _ _ _ c1]
    by_cases c2 : i = p
    · subst c2
      rw [if_pos rfl, mI_stL_c, mI_stI_v]
    · rw [if_neg c2, mI_stL_c, mI_stI_o _ _ _ _ c2]
theorem mL_stL_v (M : xM) (a k : Nat) (v : Int64) : mL (stL M a k v) a k = v := xup_s _ a k v
theorem mL_stL_o (M : xM) (a b : Nat) {k j : Nat} (v : Int64) (h : j ≠ k) : mL (stL M a k v) b j = mL M b j := xup_k _ a v h b
theorem excM_L (M : xM) (a p q i : Nat) : mL (excM M a p q) (a + 2) i = exn (mL M (a + 2)) p q i := by
  unfold excM filM exn
  by_cases c1 : i = q
  · subst c1
    rw [if_pos rfl, mL_stL_v]
  · rw [if_neg c1, mL_stL_o _ _ _ _ c1, mL_stI_c]
    by_cases c2 : i = p
    · subst c2
      rw [if_pos rfl, mL_stL_v]
    · rw [if_neg c2, mL_stL_o _ _ _ _ c2, mL_stI_c]
theorem excM_oI (M : xM) (a p q : Nat) {b : Nat} (h : b ≠ a + 1) : mI (excM M a p q) b = mI M b := by
  unfold excM filM
  rw [mI_stL_c, mI_stI_c _ _ _ h, mI_stL_c, mI_stI_c _ _ _ h]
theorem excM_oL (M : xM) (a p q : Nat) {b : Nat} (h : b ≠ a + 2) : mL (excM M a p q) b = mL M b := by
  unfold excM filM
  rw [mL_stL_c _ _ _ h, mL_stI_c, mL_stL_c _ _ _ h, mL_stI_c]
/-- the reference's exchange -/
def exrM (M : xM) (x y : Nat) : xM := stL (stI (stL (stI M 4 x (mI M 4 y)) 5 x (mL M 5 y)) 4 y (mI M 4 x)) 5 y (mL M 5 x)
theorem exrM_I (M : xM) (x y i : Nat) : mI (exrM M x y) 4 i = exn (mI M 4) x y i := by
  unfold exrM exn
  by_cases c1 : i = y
  · subst c1
    rw [if_pos rfl, mI_stL_c, mI_stI_v]
  · rw [if_neg c1, mI_stL_c, mI_stI_o _ _ _ _ c1]
    by_cases c2 : i = x
    · subst c2
      rw [if_pos rfl, mI_stL_c, mI_stI_v]
    · rw [if_neg c2, mI_stL_c, mI_stI_o _ _ _ _ c2]
theorem exrM_L (M : xM) (x y i : Nat) : mL (exrM M x y) 5 i = exn (mL M 5) x y i := by
  unfold exrM exn
  by_cases c1 : i = y
  · subst c1
    rw [if_pos rfl, mL_stL_v]
  · rw [if_neg c1, mL_stL_o _ _ _ _ c1, mL_stI_c]
    by_cases c2 : i = x
    · subst c2
      rw [if_pos rfl, mL_stL_v]
    · rw [if_neg c2, mL_stL_o _ _ _ _ c2, mL_stI_c]
theorem exrM_oI (M : xM) (x y : Nat) {b : Nat} (h : b ≠ 4) : mI (exrM M x y) b = mI M b := by
  unfold exrM
  rw [mI_stL_c, mI_stI_c _ _ _ h, mI_stL_c, mI_stI_c _ _ _ h]
theorem exrM_oL (M : xM) (x y : Nat) {b : Nat} (h : b ≠ 5) : mL (exrM M x y) b = mL M b := by
  unfold exrM
  rw [mL_stL_c _ _ _ h, mL_stI_c, mL_stL_c _ _ _ h, mL_stI_c]
theorem exn_shift {α : Type} (f : Nat → α) (o p q i : Nat) : exn f (o + p) (o + q) (o + i) = exn (fun k => f (o + k)) p q i := by
  unfold exn
  by_cases c1 : i = q
  · subst c1; rw [if_pos rfl, if_pos rfl]
  · rw [if_neg (show ¬ o + i = o + q by omega), if_neg c1]
    by_cases c2 : i = p
    · subst c2; rw [if_pos rfl, if_pos rfl]
    · rw [if_neg (show ¬ o + i = o + p by omega), if_neg c2]
theorem exn_out {α : Type} (f : Nat → α) {x y i : Nat} (h1 : i ≠ x) (h2 : i ≠ y) : exn f x y i = f i := by
  unfold exn
  rw [if_neg h2, if_neg h1]
theorem Rel_swap {MC MR : xM} (hR : Rel MC MR) {κ ζ : Nat → Nat} (hS : ∀ t, t < 12 → RelT MC MR κ ζ t) {t p q : Nat} (ht : t < 12) (hp : p < ζ t) (hq : q < ζ t) : Rel (excM MC (54 + 3 * t) p q) (exrM MR (12 * t + p) (12 * t + q)) := by
  obtain ⟨h1, h2, h3, -, ⟨len, pos, b1, b2, b3, b4, b5, b6, b7⟩, ⟨⟨m, hm, m1, m2⟩, o1, o2, o3, o4⟩⟩ := hR
  have hz : ζ t ≤ 12 := (hS t ht).2.1
  refine ⟨(excM_T MC _ p q).TC h1, sT.TR (M := MR) ⟨rfl, rfl, rfl⟩ h2, h3.k (exrM_oI _ _ _ (by decide)), ⟨κ, ζ, fun u hu => ?_⟩, ⟨len, pos, b1, b2, ?_, ?_, ?_, ?_, ?_⟩, ⟨m, hm, ?_, ?_⟩, ?_, ?_, ?_, ?_⟩
  · by_cases c : u = t
    · subst c
      obtain ⟨g1, g2, g3, g4, g5, g6, g7, g8, g9⟩ := hS u hu
      refine ⟨g1, g2, ?_, ?_, ?_, fun z => ?_, g7, fun q1 q2 => ?_, fun i hi => ?_⟩
      · rw [excM_oI _ _ _ _ (by omega)]; exact g3
      · rw [exrM_oI _ _ _ (by decide)]; exact g4
      · rw [excM_oI _ _ _ _ (by omega)]; exact g5
      · rw [exrM_oI _ _ _ (by decide)]; exact g6 z
      · have := g7 q1; omega
      · rw [excM_I, excM_L, exrM_I, exrM_L, exn_shift, exn_shift, exn_j, exn_j, exn_j, exn_j]
        exact g9 _ (exj_lt hp hq hi)
    · refine (hS u hu).k (fun k => ?_) (fun k _ => ?_) (fun k _ => ?_) ?_ ?_ ?_ (fun i hi => ?_) (fun i hi => ?_)
      · rw [excM_oI _ _ _ _ (by omega)]
      · rw [excM_oI _ _ _ _ (by omega)]
      · rw [excM_oL _ _ _ _ (by omega)]
      · rw [exrM_oI _ _ _ (by decide)]
      · rw [exrM_oI _ _ _ (by decide)]
      · rw [exrM_oL _ _ _ (by decide)]
      · rw [exrM_I, exn_out _ (by omega) (by omega)]
      · rw [exrM_L, exn_out _ (by omega) (by omega)]
  · rw [excM_oI _ _ _ _ (by omega)]; exact b3
  · rw [exrM_oI _ _ _ (by decide)]; exact b4
  · rw [excM_oI _ _ _ _ (by omega)]; exact b5
  · rw [exrM_oI _ _ _ (by decide)]; exact b6
  · intro i hi
    rw [excM_oI _ _ _ _ (by omega), exrM_oI _ _ _ (by decide)]; exact b7 i hi
  · rw [excM_oI _ _ _ _ (by omega)]; exact m1
  · rw [exrM_oI _ _ _ (by decide)]; exact m2
  · rw [excM_oI _ _ _ _ (by omega), exrM_oI _ _ _ (by decide)]; exact o1
  · rw [excM_oI _ _ _ _ (by omega), exrM_oI _ _ _ (by decide)]; exact o2
  · intro k hk
    rw [excM_oI _ _ _ _ (by omega), exrM_oI _ _ _ (by decide)]; exact o3 k hk
  · intro k hk
    rw [exrM_oL _ _ _ (by decide)]; exact o4 k hk
