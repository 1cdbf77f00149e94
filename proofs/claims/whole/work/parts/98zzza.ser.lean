-- THE REFERENCE'S NEWS: the state
def vO (s : Nat → Nat) (W : Nat → Nat → Nat) (V : Nat → Nat → Int64) (i j : Nat) : Int64 := if W i j = 10 then lN (s (lC (V i j))) else V i j
def vS (s h : Nat → Nat) (W : Nat → Nat → Nat) (V : Nat → Nat → Int64) (m jj i j : Nat) : Int64 := if W i j = 10 then (if i < m ∨ (i = m ∧ j < jj) then lN (h (lC (V i j))) else lN (s (lC (V i j)))) else V i j
def SeR (M0 : xM) (s h K Z : Nat → Nat) (W : Nat → Nat → Nat) (V : Nat → Nat → Int64) (m jj k : Nat) (A : xM) : Prop :=
  TR A ∧ LenR A ∧ (∀ x, x = 0 ∨ (6 ≤ x ∧ x ≠ 10) → mI A x = mI M0 x) ∧ mL A 18 = mL M0 18 ∧
  (∀ i, i < k → mI A 10 (s i) = nI (h i)) ∧
  (∀ t, t < 24 → (∀ i, i < k → h i ≠ t) → mI A 1 t = mI M0 1 t ∧ mI A 2 t = mI M0 2 t ∧ mL A 3 t = mL M0 3 t ∧ ∀ j, j < 12 → mI A 4 (12 * t + j) = mI M0 4 (12 * t + j) ∧ mL A 5 (12 * t + j) = mL M0 5 (12 * t + j)) ∧
  (∀ i, i < k → mI A 1 (h i) = nI (K i) ∧ mI A 2 (h i) = nI (Z i) ∧ (14 ≤ K i → mL A 3 (h i) = V i 0) ∧ ∀ j, j < Z i → mI A 4 (12 * h i + j) = nI (W i j) ∧ mL A 5 (12 * h i + j) = vS s h W V m jj i j)
def srcR (M0 : xM) (s : Nat → Nat) (n : Nat) (K Z : Nat → Nat) (W : Nat → Nat → Nat) (V : Nat → Nat → Int64) : Prop := ∀ i, i < n → s i < 24 ∧ mI M0 11 i = nI (s i) ∧ mI M0 1 (s i) = nI (K i) ∧ mI M0 2 (s i) = nI (Z i) ∧ (14 ≤ K i → mL M0 3 (s i) = V i 0) ∧ ∀ j, j < Z i → mI M0 4 (12 * s i + j) = nI (W i j) ∧ mL M0 5 (12 * s i + j) = vO s W V i j
/-- the new places: below 12, one for each, none of them a source -/
def homOk (n : Nat) (s h : Nat → Nat) : Prop := (∀ i, i < n → h i < 12) ∧ (∀ i j, i < n → j < n → i ≠ j → h i ≠ h j) ∧ (∀ i j, i < n → j < n → i ≠ j → s i ≠ s j) ∧ ∀ i j, i < n → j < n → h i ≠ s j
theorem SeR.rf {M0 : xM} (hT : TR M0) (hL : LenR M0) (s h K Z : Nat → Nat) (W : Nat → Nat → Nat) (V : Nat → Nat → Int64) : SeR M0 s h K Z W V 0 0 0 M0 := ⟨hT, hL, fun _ _ => rfl, rfl, fun i hi => absurd hi (Nat.not_lt_zero i), fun _ _ _ => ⟨rfl, rfl, rfl, fun _ _ => ⟨rfl, rfl⟩⟩, fun i hi => absurd hi (Nat.not_lt_zero i)⟩
noncomputable def nwR (A : xM) (t s k z : Nat) : xM := stI (copM (stL (begM A t (nI k) (nI z)) 3 t (mL (begM A t (nI k) (nI z)) 3 s)) s t z) 10 s (nI t)
theorem sT_nwR (A : xM) (t s k z : Nat) : sT A (nwR A t s k z) := ⟨rfl, rfl, rfl⟩
theorem SeR.add {M0 A : xM} {s h K Z : Nat → Nat} {W : Nat → Nat → Nat} {V : Nat → Nat → Int64} {n k : Nat} (hs : SeR M0 s h K Z W V 0 0 k A) (hr : srcR M0 s n K Z W V) (hok : srcOk n K Z W V) (hh : homOk n s h) (hk : k < n) : SeR M0 s h K Z W V 0 0 (k + 1) (nwR A (h k) (s k) (K k) (Z k)) := by
  obtain ⟨s1, s2, s3, s4, s5, s6, s7⟩ := hs
  obtain ⟨r1, r2, r3, r4, r5, r6⟩ := hr k hk
  obtain ⟨o1, o2, o3, o4⟩ := hok.2 k hk
  obtain ⟨h1, h2, h3, h4⟩ := hh
  have hst : s k ≠ h k := Ne.symm (h4 k k hk hk)
  obtain ⟨f1, f2, f3, f4⟩ := s6 (s k) r1 (fun i hi => h4 i k (by omega) hk)
  have eI : ∀ x, x ≠ 4 → x ≠ 10 → mI (nwR A (h k) (s k) (K k) (Z k)) x = mI (begM A (h k) (nI (K k)) (nI (Z k))) x := fun x a b => by
    unfold nwR
    rw [mI_stI_c _ _ _ b, copM_I _ _ _ _ a, mI_stL_c]
  have e4 : ∀ u j, u ≠ h k → j < 12 → mI (nwR A (h k) (s k) (K k) (Z k)) 4 (12 * u + j) = mI A 4 (12 * u + j) := fun u j a b => by
    unfold nwR
    rw [mI_stI_c _ _ _ (by decide), copM_4o _ _ a b o2, mI_stL_c, begM_4o _ _ _ _ a b]
  have e5 : ∀ u j, u ≠ h k → j < 12 → mL (nwR A (h k) (s k) (K k) (Z k)) 5 (12 * u + j) = mL A 5 (12 * u + j) := fun u j a b => by
    unfold nwR
    rw [mL_stI_c, copM_5o _ _ a b o2, mL_stL_c _ _ _ (by decide), begM_5o _ _ _ _ a b]
  have e3 : ∀ u, u ≠ h k → mL (nwR A (h k) (s k) (K k) (Z k)) 3 u = mL A 3 u := fun u a => by
    unfold nwR
    rw [mL_stI_c, copM_L _ _ _ _ (by decide), mL_stL_o _ _ _ _ a, begM_3o _ _ _ _ a]
  have e1 : ∀ u, u ≠ h k → mI (nwR A (h k) (s k) (K k) (Z k)) 1 u = mI A 1 u := fun u a => by rw [eI 1 (by decide) (by decide), begM_1, if_neg a]
  have e2 : ∀ u, u ≠ h k → mI (nwR A (h k) (s k) (K k) (Z k)) 2 u = mI A 2 u := fun u a => by rw [eI 2 (by decide) (by decide), begM_2, if_neg a]
  refine ⟨(sT_nwR A _ _ _ _).TR s1, fun u hu => ?_, fun x hx => ?_, ?_, fun i hi => ?_, fun t ht hn => ?_, fun i hi => ?_⟩
  · by_cases c : u = h k
    · rw [eI 2 (by decide) (by decide), begM_2, if_pos c]; exact ⟨_, o2, rfl⟩
    · rw [e2 u c]; exact s2 u hu
  · rw [eI x (by omega) (by omega), begM_oI _ _ _ _ (by omega)]; exact s3 x hx
  · unfold nwR
    rw [mL_stI_c, copM_L _ _ _ _ (by decide), mL_stL_c _ _ _ (by decide), begM_oL _ _ _ _ (by decide)]; exact s4
  · unfold nwR
    by_cases c : i = k
    · rw [c]; exact mI_stI_v _ _ _ _
    · rw [mI_stI_o _ _ _ _ (h3 i k (by omega) hk c), copM_I _ _ _ _ (by decide), mI_stL_c, begM_oI _ _ _ _ (by decide)]
      exact s5 i (by omega)
  · have htk : t ≠ h k := Ne.symm (hn k (by omega))
    obtain ⟨g1, g2, g3, g4⟩ := s6 t ht (fun i hi => hn i (by omega))
    exact ⟨(e1 t htk).trans g1, (e2 t htk).trans g2, (e3 t htk).trans g3, fun j hj => ⟨(e4 t j htk hj).trans (g4 j hj).1, (e5 t j htk hj).trans (g4 j hj).2⟩⟩
  · by_cases c : i = k
    · subst c
      refine ⟨?_, ?_, fun z => ?_, fun j hj => ⟨?_, ?_⟩⟩
      · rw [eI 1 (by decide) (by decide), begM_1, if_pos rfl]
      · rw [eI 2 (by decide) (by decide), begM_2, if_pos rfl]
      · unfold nwR
        rw [mL_stI_c, copM_L _ _ _ _ (by decide), mLv, begM_3o _ _ _ _ hst, f3]
        exact r5 z
      · unfold nwR
        rw [mI_stI_c _ _ _ (by decide), copM_4 _ _ _ _ hj, mI_stL_c, begM_4o _ _ _ _ hst (by omega), (f4 j (by omega)).1]
        exact (r6 j hj).1
      · unfold nwR
        rw [mL_stI_c, copM_5 _ _ _ _ hj, mL_stL_c _ _ _ (by decide), begM_5o _ _ _ _ hst (by omega), (f4 j (by omega)).2, (r6 j hj).2]
        unfold vO vS
        rw [if_neg (show ¬ (i < 0 ∨ (i = 0 ∧ j < 0)) by omega)]
    · have hik := h2 i k (by omega) hk c
      obtain ⟨g1, g2, g3, g4⟩ := s7 i (by omega)
      have zi := (hok.2 i (by omega)).2.1
      exact ⟨(e1 _ hik).trans g1, (e2 _ hik).trans g2, fun z => (e3 _ hik).trans (g3 z), fun j hj => ⟨(e4 _ j hik (by omega)).trans (g4 j hj).1, (e5 _ j hik (by omega)).trans (g4 j hj).2⟩⟩
theorem vS_o {s h : Nat → Nat} {W : Nat → Nat → Nat} {V : Nat → Nat → Int64} {m jj i j : Nat} (hne : ¬ (i = m ∧ j = jj)) : vS s h W V m (jj + 1) i j = vS s h W V m jj i j := by
  unfold vS
  by_cases c : W i j = 10
  · rw [if_pos c, if_pos c]
    by_cases z : i < m ∨ (i = m ∧ j < jj)
    · rw [if_pos z, if_pos (by omega)]
    · rw [if_neg z, if_neg (by omega)]
  · rw [if_neg c, if_neg c]
theorem SeR.c10 {M0 A : xM} {s h K Z : Nat → Nat} {W : Nat → Nat → Nat} {V : Nat → Nat → Int64} {n m jj : Nat} (hs : SeR M0 s h K Z W V m jj n A) (hok : srcOk n K Z W V) (hh : homOk n s h) (hm : m < n) (hj : jj < Z m) (h10 : W m jj = 10) : SeR M0 s h K Z W V m (jj + 1) n (stL A 5 (12 * h m + jj) (lN (h (lC (V m jj))))) := by
  obtain ⟨s1, s2, s3, s4, s5, s6, s7⟩ := hs
  have o2 := (hok.2 m hm).2.1
  have e5 : ∀ u j, j < 12 → ¬ (u = h m ∧ j = jj) → mL (stL A 5 (12 * h m + jj) (lN (h (lC (V m jj))))) 5 (12 * u + j) = mL A 5 (12 * u + j) := fun u j a b => mLo _ _ _ _ (by omega)
  have e3 : ∀ u, mL (stL A 5 (12 * h m + jj) (lN (h (lC (V m jj))))) 3 u = mL A 3 u := fun u => congrFun (mL_stL_c _ _ _ (by decide)) u
  refine ⟨(sT.L A _ _ _).TR s1, s2, s3, (mL_stL_c _ _ _ (by decide)).trans s4, s5, fun t ht hn => ?_, fun i hi => ?_⟩
  · have htm := hn m hm
    obtain ⟨g1, g2, g3, g4⟩ := s6 t ht hn
    exact ⟨g1, g2, (e3 t).trans g3, fun j hj => ⟨(g4 j hj).1, (e5 t j hj (fun z => htm z.1.symm)).trans (g4 j hj).2⟩⟩
  · obtain ⟨g1, g2, g3, g4⟩ := s7 i hi
    have zi := (hok.2 i hi).2.1
    refine ⟨g1, g2, fun z => (e3 _).trans (g3 z), fun j hj2 => ⟨(g4 j hj2).1, ?_⟩⟩
    by_cases c : i = m ∧ j = jj
    · obtain ⟨rfl, rfl⟩ := c
      rw [mLv]
      unfold vS
      rw [if_pos h10, if_pos (by omega)]
    · rw [vS_o c, e5 (h i) j (by omega) (fun z => ?_)]
      · exact (g4 j hj2).2
      · by_cases c2 : i = m
        · exact c ⟨c2, z.2⟩
        · exact hh.2.1 i m hi hm c2 z.1
theorem SeR.cno {M0 A : xM} {s h K Z : Nat → Nat} {W : Nat → Nat → Nat} {V : Nat → Nat → Int64} {n m jj : Nat} (hs : SeR M0 s h K Z W V m jj n A) (h10 : ¬ W m jj = 10) : SeR M0 s h K Z W V m (jj + 1) n A := by
  obtain ⟨s1, s2, s3, s4, s5, s6, s7⟩ := hs
  refine ⟨s1, s2, s3, s4, s5, s6, fun i hi => ?_⟩
  obtain ⟨g1, g2, g3, g4⟩ := s7 i hi
  refine ⟨g1, g2, g3, fun j hj2 => ⟨(g4 j hj2).1, (g4 j hj2).2.trans ?_⟩⟩
  by_cases c : i = m ∧ j = jj
  · obtain ⟨rfl, rfl⟩ := c
    unfold vS
    rw [if_neg h10, if_neg h10]
  · exact (vS_o c).symm
theorem SeR.nxt {M0 A : xM} {s h K Z : Nat → Nat} {W : Nat → Nat → Nat} {V : Nat → Nat → Int64} {n m : Nat} (hs : SeR M0 s h K Z W V m (Z m) n A) : SeR M0 s h K Z W V (m + 1) 0 n A := by
  obtain ⟨s1, s2, s3, s4, s5, s6, s7⟩ := hs
  refine ⟨s1, s2, s3, s4, s5, s6, fun i hi => ?_⟩
  obtain ⟨g1, g2, g3, g4⟩ := s7 i hi
  refine ⟨g1, g2, g3, fun j hj2 => ⟨(g4 j hj2).1, (g4 j hj2).2.trans ?_⟩⟩
  unfold vS
  by_cases c : W i j = 10
  · rw [if_pos c, if_pos c]
    by_cases z : i < m ∨ (i = m ∧ j < Z m)
    · rw [if_pos z, if_pos (by omega)]
    · rw [if_neg z, if_neg (fun y => z (by
        by_cases c2 : i = m
        · subst c2; exact Or.inr ⟨rfl, hj2⟩
        · omega))]
  · rw [if_neg c, if_neg c]
-- THE RELATION BEHIND
def upK (κ h K : Nat → Nat) : Nat → Nat → Nat
  | 0 => κ
  | n + 1 => updN (upK κ h K n) (h n) (K n)
theorem upK_o {κ h K : Nat → Nat} {t : Nat} : ∀ n, (∀ i, i < n → h i ≠ t) → upK κ h K n t = κ t
  | 0, _ => rfl
  | n + 1, hn => by
    show updN (upK κ h K n) (h n) (K n) t = κ t
    rw [updN_o _ _ (Ne.symm (hn n (by omega)))]
    exact upK_o n (fun i hi => hn i (by omega))
theorem upK_h {κ h K : Nat → Nat} : ∀ n, (∀ i j, i < n → j < n → i ≠ j → h i ≠ h j) → ∀ i, i < n → upK κ h K n (h i) = K i
  | 0, _, i, hi => absurd hi (Nat.not_lt_zero i)
  | n + 1, hne, i, hi => by
    show updN (upK κ h K n) (h n) (K n) (h i) = K i
    by_cases c : i = n
    · rw [c]; exact updN_s _ _ _
    · rw [updN_o _ _ (hne i n hi (by omega) c)]
      exact upK_h n (fun a b ha hb => hne a b (by omega) (by omega)) i (by omega)
theorem hom_dec (h : Nat → Nat) (t : Nat) : ∀ n, (∃ i, i < n ∧ h i = t) ∨ ∀ i, i < n → h i ≠ t
  | 0 => Or.inr (fun i hi => absurd hi (Nat.not_lt_zero i))
  | n + 1 => by
    by_cases c : h n = t
    · exact Or.inl ⟨n, by omega, c⟩
    · rcases hom_dec h t n with ⟨i, i1, i2⟩ | q
      · exact Or.inl ⟨i, by omega, i2⟩
      · refine Or.inr (fun i hi => ?_)
        by_cases c2 : i = n
        · rw [c2]; exact c
        · exact q i (by omega)
theorem Rel_set {MC MR B D : xM} {κ ζ : Nat → Nat} (hR : Rel MC MR) (hS : ∀ t, t < 12 → RelT MC MR κ ζ t) {n : Nat} {s h K Z : Nat → Nat} {W : Nat → Nat → Nat} {V : Nat → Nat → Int64} (hok : srcOk n K Z W V) (hh : homOk n s h) (hE : ∀ i, i < n → κ (h i) = 16) (hT : ∀ i, i < n → 14 ≤ K i → okT (K i) (V i 0)) (hC : ∀ i, i < n → ∀ j, j < Z i → okC (fun u => if u < n then K u else 16) (K i) (W i j) (V i j)) (hB : SeC MC h K Z W V n n B) (hD : SeR MR s h K Z W V n 0 n D) : Rel B D := by
  obtain ⟨b1, b2, b3, b4, b5, b6⟩ := hB
  obtain ⟨d1, d2, d3, d4, d5, d6, d7⟩ := hD
  obtain ⟨a1, a2, a3, -, ⟨len, pos, l1, l2, l3, l4, l5, l6, l7⟩, ⟨⟨m, hm, m1, m2⟩, p1, p2, p3, p4⟩⟩ := hR
  have c0 : mI B 0 = mI MC 0 := b2 0 (by decide)
  have e0 : mI D 0 = mI MR 0 := d3 0 (by decide)
  refine ⟨b1, d1, d2, ⟨upK κ h K n, upK ζ h Z n, fun t ht => ?_⟩, ⟨len, pos, l1, l2, ?_, ?_, ?_, ?_, ?_⟩, ⟨m, hm, ?_, ?_⟩, ?_, ?_, ?_, ?_⟩
  · rcases hom_dec h t n with ⟨i, i1, rfl⟩ | hn
    · obtain ⟨o1, o2, o3, o4⟩ := hok.2 i i1
      obtain ⟨x1, x2, x3, x4⟩ := b5 i i1
      obtain ⟨y1, y2, y3, y4⟩ := d7 i i1
      unfold RelT
      rw [upK_h n hh.2.1 i i1, upK_h n hh.2.1 i i1]
      refine ⟨by omega, o2, by rw [kdI_lt o1]; exact x1, by rw [kdI_lt o1]; exact y1, x2, fun _ => y2, o3, fun z _ => ⟨(x3 z).trans (y3 z).symm, by rw [y3 z]; exact hT i i1 z⟩, fun j hj => ?_⟩
      have e : vL h W V n i j = vS s h W V n 0 i j := by
        unfold vL vS
        by_cases c : W i j = 10
        · rw [if_pos ⟨i1, c⟩, if_pos c, if_pos (Or.inl i1)]
        · rw [if_neg (fun z => c z.2), if_neg c]
      refine ⟨(x4 j hj).1.trans (y4 j hj).1.symm, ((x4 j hj).2.trans e).trans (y4 j hj).2.symm, W i j, (y4 j hj).1, ?_⟩
      rw [(y4 j hj).2]
      obtain ⟨q1, q2, q3, q4, q5, q6, q7, q8, q9, q10, q11, q12⟩ := hC i i1 j hj
      unfold vS
      by_cases c : W i j = 10
      · rw [if_pos c, if_pos (Or.inl i1)]
        obtain ⟨u, u1, u2, u3, u4⟩ := q11 c
        have u3 : (if u < n then K u else 16) < 14 := u3
        have u4 : K i = 13 → (if u < n then K u else 16) = 4 := u4
        have hu : u < n := by
          by_cases z : u < n
          · exact z
          · rw [if_neg z] at u3; omega
        rw [if_pos hu] at u3 u4
        rw [u2, lC_N (by omega)]
        refine ⟨q1, q2, q3, q4, q5, fun z => by rcases q6 z with ⟨z1, -⟩ | z1 <;> omega, q7, fun z => by omega, fun z => by omega, fun z => by omega, fun _ => ⟨h u, hh.1 u hu, rfl, by rw [upK_h n hh.2.1 u hu]; exact u3, fun z => by rw [upK_h n hh.2.1 u hu]; exact u4 z⟩, fun z => by omega⟩
      · rw [if_neg c]
        exact ⟨q1, q2, q3, q4, q5, q6, q7, q8, q9, q10, fun z => absurd z c, q12⟩
    · obtain ⟨x1, x2, x3⟩ := b4 t ht hn
      obtain ⟨y1, y2, y3, y4⟩ := d6 t (by omega) hn
      have q := (hS t ht).k (MC' := B) (MR' := D) (fun k => congrFun x1 k) (fun k _ => congrFun x2 k) (fun k _ => congrFun x3 k) y1 y2 y3 (fun i hi => (y4 i hi).1) (fun i hi => (y4 i hi).2)
      unfold RelT at q ⊢
      rw [upK_o n hn, upK_o n hn]
      obtain ⟨g1, g2, g3, g4, g5, g6, g7, g8, g9⟩ := q
      refine ⟨g1, g2, g3, g4, g5, g6, g7, g8, fun i hi => ?_⟩
      obtain ⟨z1, z2, w, z3, z4⟩ := g9 i hi
      refine ⟨z1, z2, w, z3, ?_⟩
      obtain ⟨q1, q2, q3, q4, q5, q6, q7, q8, q9, q10, q11, q12⟩ := z4
      refine ⟨q1, q2, q3, q4, q5, q6, q7, q8, q9, q10, fun z => ?_, q12⟩
      obtain ⟨u, u1, u2, u3, u4⟩ := q11 z
      have hu : ∀ i, i < n → h i ≠ u := fun i hi e => by rw [← e, hE i hi] at u3; omega
      exact ⟨u, u1, u2, by rw [upK_o n hu]; exact u3, fun z => by rw [upK_o n hu]; exact u4 z⟩
  · rw [b2 2 (by decide)]; exact l3
  · rw [e0]; exact l4
  · rw [c0]; exact l5
  · rw [e0]; exact l6
  · intro i hi
    rw [b2 3 (by decide), d3 6 (by decide)]; exact l7 i hi
  · rw [c0]; exact m1
  · rw [e0]; exact m2
  · rw [c0, e0]; exact p1
  · rw [c0, e0]; exact p2
  · intro k hk
    rw [b2 53 (by decide), d3 7 (by decide)]; exact p3 k hk
  · intro k hk
    rw [d4]; exact p4 k hk
