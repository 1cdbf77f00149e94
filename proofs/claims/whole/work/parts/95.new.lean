-- A NEW THING IN AN EMPTY SLOT
def updN (f : Nat → Nat) (t v : Nat) : Nat → Nat := fun u => if u = t then v else f u
theorem updN_s (f : Nat → Nat) (t v : Nat) : updN f t v t = v := if_pos rfl
theorem updN_o (f : Nat → Nat) {t u : Nat} (v : Nat) (h : u ≠ t) : updN f t v u = f u := if_neg h
theorem okC_upd {κ : Nat → Nat} {k w : Nat} {v : Int64} {t x : Nat} (h : okC κ k w v) (he : κ t = 16) : okC (updN κ t x) k w v := by
  obtain ⟨h1, h2, h3, h4, h5, h6, h7, h8, h9, h10, h11, h12⟩ := h
  refine ⟨h1, h2, h3, h4, h5, h6, h7, h8, h9, h10, fun q => ?_, h12⟩
  obtain ⟨u, u1, u2, u3, u4⟩ := h11 q
  have hne : u ≠ t := fun e => by subst e; omega
  exact ⟨u, u1, u2, by rw [updN_o _ _ hne]; exact u3, fun q => by rw [updN_o _ _ hne]; exact u4 q⟩
theorem RelT.toN {MC MR : xM} {κ ζ : Nat → Nat} {u t x y : Nat} (h : RelT MC MR κ ζ u) (hne : u ≠ t) (he : κ t = 16) : RelT MC MR (updN κ t x) (updN ζ t y) u := by
  unfold RelT at h ⊢
  rw [updN_o κ x hne, updN_o ζ y hne]
  obtain ⟨g1, g2, g3, g4, g5, g6, g7, g8, g9⟩ := h
  refine ⟨g1, g2, g3, g4, g5, g6, g7, g8, fun i hi => ?_⟩
  obtain ⟨q1, q2, w, q3, q4⟩ := g9 i hi
  exact ⟨q1, q2, w, q3, okC_upd q4 he⟩
theorem Rel_new {MC MR MC' MR' : xM} (hR : Rel MC MR) {κ ζ : Nat → Nat} (hS : ∀ t, t < 12 → RelT MC MR κ ζ t) {t k z : Nat} (he : κ t = 16) (hTC : TC MC') (hTR : TR MR') (hLen : LenR MR')
    (hc : ∀ a, a ≠ 54 + 3 * t → a ≠ 54 + 3 * t + 1 → a ≠ 54 + 3 * t + 2 → mI MC' a = mI MC a ∧ mL MC' a = mL MC a)
    (hr : ∀ u, u ≠ t → mI MR' 1 u = mI MR 1 u ∧ mI MR' 2 u = mI MR 2 u ∧ mL MR' 3 u = mL MR 3 u ∧ ∀ i, i < 12 → mI MR' 4 (12 * u + i) = mI MR 4 (12 * u + i) ∧ mL MR' 5 (12 * u + i) = mL MR 5 (12 * u + i))
    (hl : ∀ a, a = 0 ∨ 6 ≤ a → mI MR' a = mI MR a ∧ mL MR' a = mL MR a) (hn : RelT MC' MR' (updN κ t k) (updN ζ t z) t) : Rel MC' MR' := by
  obtain ⟨h1, h2, h3, -, ⟨len, pos, b1, b2, b3, b4, b5, b6, b7⟩, ⟨⟨m, hm, m1, m2⟩, o1, o2, o3, o4⟩⟩ := hR
  have c0 : ∀ a, a < 54 → mI MC' a = mI MC a := fun a ha => (hc a (by omega) (by omega) (by omega)).1
  refine ⟨hTC, hTR, hLen, ⟨updN κ t k, updN ζ t z, fun u hu => ?_⟩, ⟨len, pos, b1, b2, ?_, ?_, ?_, ?_, ?_⟩, ⟨m, hm, ?_, ?_⟩, ?_, ?_, ?_, ?_⟩
  · by_cases c : u = t
    · subst c; exact hn
    · obtain ⟨q1, q2, q3, q4⟩ := hr u c
      refine ((hS u hu).toN c he).k (fun k => ?_) (fun k _ => ?_) (fun k _ => ?_) q1 q2 q3 (fun i hi => (q4 i hi).1) (fun i hi => (q4 i hi).2)
      · rw [(hc (54 + 3 * u) (by omega) (by omega) (by omega)).1]
      · rw [(hc (54 + 3 * u + 1) (by omega) (by omega) (by omega)).1]
      · rw [(hc (54 + 3 * u + 2) (by omega) (by omega) (by omega)).2]
  · rw [c0 2 (by decide)]; exact b3
  · rw [(hl 0 (by decide)).1]; exact b4
  · rw [c0 0 (by decide)]; exact b5
  · rw [(hl 0 (by decide)).1]; exact b6
  · intro i hi
    rw [c0 3 (by decide), (hl 6 (by decide)).1]; exact b7 i hi
  · rw [c0 0 (by decide)]; exact m1
  · rw [(hl 0 (by decide)).1]; exact m2
  · rw [c0 0 (by decide), (hl 0 (by decide)).1]; exact o1
  · rw [c0 0 (by decide), (hl 0 (by decide)).1]; exact o2
  · intro k hk
    rw [c0 53 (by decide), (hl 7 (by decide)).1]; exact o3 k hk
  · intro k hk
    rw [(hl 18 (by decide)).2]; exact o4 k hk
-- the reference's beginning of a row
theorem begM_1 (M : xM) (t : Nat) (x y : Int32) (u : Nat) : mI (begM M t x y) 1 u = if u = t then x else mI M 1 u := by
  unfold begM
  rw [mI_flL, mI_flI_ne _ (by decide), mI_stL_c, mI_stI_c _ _ _ (by decide)]
  by_cases c : u = t
  · subst c; rw [if_pos rfl, mI_stI_v]
  · rw [if_neg c, mI_stI_o _ _ _ _ c]
theorem begM_2 (M : xM) (t : Nat) (x y : Int32) (u : Nat) : mI (begM M t x y) 2 u = if u = t then y else mI M 2 u := by
  unfold begM
  rw [mI_flL, mI_flI_ne _ (by decide), mI_stL_c]
  by_cases c : u = t
  · subst c; rw [if_pos rfl, mI_stI_v]
  · rw [if_neg c, mI_stI_o _ _ _ _ c, mI_stI_c _ _ _ (by decide)]
theorem begM_4 (M : xM) (t : Nat) (x y : Int32) {i : Nat} (h : i < 12) : mI (begM M t x y) 4 (12 * t + i) = rFl x := by
  unfold begM
  rw [mI_flL, mI_flI_at _ h]
theorem begM_5 (M : xM) (t : Nat) (x y : Int32) {i : Nat} (h : i < 12) : mL (begM M t x y) 5 (12 * t + i) = 0 := by
  unfold begM
  rw [mL_flL_at _ h]
theorem begM_4o (M : xM) (t : Nat) (x y : Int32) {u i : Nat} (h : u ≠ t) (hi : i < 12) : mI (begM M t x y) 4 (12 * u + i) = mI M 4 (12 * u + i) := by
  unfold begM
  rw [mI_flL, mI_flI_oy _ (by omega), mI_stL_c, mI_stI_c _ _ _ (by decide), mI_stI_c _ _ _ (by decide)]
theorem begM_5o (M : xM) (t : Nat) (x y : Int32) {u i : Nat} (h : u ≠ t) (hi : i < 12) : mL (begM M t x y) 5 (12 * u + i) = mL M 5 (12 * u + i) := by
  unfold begM
  rw [mL_flL_oy _ (by omega), mL_flI, mL_stL_c _ _ _ (by decide)]
  rfl
theorem begM_3o (M : xM) (t : Nat) (x y : Int32) {u : Nat} (h : u ≠ t) : mL (begM M t x y) 3 u = mL M 3 u := by
  unfold begM
  rw [mL_flL_ne _ (by decide), mL_flI, mL_stL_o _ _ _ _ h]
  rfl
theorem begM_oI (M : xM) (t : Nat) (x y : Int32) {a : Nat} (h : a = 0 ∨ 6 ≤ a) : mI (begM M t x y) a = mI M a := by
  unfold begM
  rw [mI_flL, mI_flI_ne _ (by omega), mI_stL_c, mI_stI_c _ _ _ (by omega), mI_stI_c _ _ _ (by omega)]
theorem begM_oL (M : xM) (t : Nat) (x y : Int32) {a : Nat} (h : a = 0 ∨ 6 ≤ a) : mL (begM M t x y) a = mL M a := by
  unfold begM
  rw [mL_flL_ne _ (by omega), mL_flI, mL_stL_c _ _ _ (by omega)]
  rfl
