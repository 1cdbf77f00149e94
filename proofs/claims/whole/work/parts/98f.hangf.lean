-- HANGS, DROP, GATHER, FAR: faces
theorem row_of {MR : xM} {k t : Nat} (ht : t < 12) (hk : k ≤ 16) (h4 : mI MR 1 t = kdI k) : sX6_isRow MR (nI t) = decide (k < 14) := by
  unfold sX6_isRow
  rw [nI_clamp (by omega), h4]
  exact (by decide : ∀ k, k ≤ 16 → (if kdI k < 0 then false else if 14 ≤ kdI k then false else true) = decide (k < 14)) k hk
theorem szC_of {MC MR : xM} {κ ζ : Nat → Nat} {t : Nat} (h : RelT MC MR κ ζ t) : szC MC t = ζ t := by
  obtain ⟨-, h2, -, -, h5, -⟩ := h
  unfold szC
  rw [h5, nI_clamp (by omega)]
theorem szR_of {MC MR : xM} {κ ζ : Nat → Nat} {t : Nat} (h : RelT MC MR κ ζ t) (hk : κ t < 16) : szR MR t = ζ t := by
  obtain ⟨-, h2, -, -, -, h6, -⟩ := h
  unfold szR
  rw [h6 hk, nI_clamp (by omega)]
theorem rLk_row {MC MR : xM} {κ ζ : Nat → Nat} (hS : ∀ t, t < 12 → RelT MC MR κ ζ t) {a b i : Nat} (ha : a < 12) (hb : b < 12) (hi : i < ζ a) (h : rLk MR a (lN b) i = true) : κ b < 14 := by
  obtain ⟨h1, h2, h3, h4, h5, h6, h7, h8, h9⟩ := hS a ha
  obtain ⟨-, -, w, g3, g4⟩ := h9 i hi
  rw [rLk, Bool.and_eq_true] at h
  have e1 := of_decide_eq_true h.1
  have e2 := of_decide_eq_true h.2
  have hw : w = 10 := by
    have g5 := g4.1
    rw [g3] at e1
    exact (by decide : ∀ w, w < 12 → nI w = 10 → w = 10) w g5 e1
  obtain ⟨u, u1, u2, u3, -⟩ := g4.2.2.2.2.2.2.2.2.2.2.1 hw
  rw [e2] at u2
  rw [lN_in hb u1 u2]
  exact u3
theorem lkR_eq {MC MR : xM} {κ ζ : Nat → Nat} (hS : ∀ t, t < 12 → RelT MC MR κ ζ t) {a b : Nat} (ha : a < 12) (hb : b < 12) : lkR MR a b = (decide (κ a < 14) && any (rLk MR a (lN b)) (ζ a) 0) ∧ (sX6_isRow MR (nI a) && stR0 MR a b) = lkR MR a b := by
  have ra := row_of ha (hS a ha).1 (hS a ha).2.2.2.1
  have rb := row_of hb (hS b hb).1 (hS b hb).2.2.2.1
  unfold lkR
  rw [ra, rb]
  by_cases c : κ a < 14
  · have e : stR0 MR a b = any (rLk MR a (lN b)) (ζ a) 0 := by unfold stR0; rw [szR_of (hS a ha) (by omega)]
    rw [e, decide_eq_true c, Bool.true_and, Bool.true_and]
    cases h : any (rLk MR a (lN b)) (ζ a) 0 with
    | false => rw [Bool.and_false]; exact ⟨rfl, rfl⟩
    | true =>
      obtain ⟨j, -, j2, j3⟩ := (any_iff _ _ _).mp h
      rw [decide_eq_true (rLk_row hS ha hb (by omega) j3)]
      exact ⟨rfl, rfl⟩
  · rw [decide_eq_false c]
    exact ⟨rfl, rfl⟩
theorem lkC_SB {MC MR : xM} {κ ζ : Nat → Nat} (hS : ∀ t, t < 12 → RelT MC MR κ ζ t) {t : Nat} (ht : t < 12) : SB (lkC MC t) (lkR MR t) := by
  have e := szC_of (hS t ht)
  obtain ⟨h1, h2, h3, h4, h5, h6, h7, h8, h9⟩ := hS t ht
  have q := lkF_SB (M := MC) (a := 54 + 3 * t) (ζ t) 0 0 _ SB.z (fun j _ j2 hj => by
    obtain ⟨g1, g2, w, g3, g4⟩ := h9 j (by omega)
    rw [g1, g3] at hj
    obtain ⟨u, u1, u2, -⟩ := g4.2.2.2.2.2.2.2.2.2.2.1 ((by decide : ∀ w, w < 12 → nI w = 10 → w = 10) w g4.1 hj)
    exact ⟨u, u1, g2.trans u2⟩)
  unfold lkC
  rw [e]
  refine q.co (fun k hk => ?_)
  rw [(lkR_eq hS ht hk).1]
  show (false || any _ (ζ t) 0) = _
  rw [Bool.false_or]
  by_cases c : κ t < 14
  · rw [decide_eq_true c, Bool.true_and]
    refine any_co (fun j _ j2 => ?_)
    obtain ⟨g1, g2, -⟩ := h9 j (by omega)
    rw [g1, g2]
  · rw [decide_eq_false c, h7 (by omega)]
    rfl
theorem hgF_hanging {MC MR : xM} {κ ζ : Nat → Nat} (hS : ∀ t, t < 12 → RelT MC MR κ ζ t) {t : Nat} (ht : t < 12) : hgF MC (szC MC) 12 ((1 : Int32) <<< (nI t &&& 31)) = sX6_hanging MR (nI t) := by
  have h1 := hgF_SB (M := MC) (Z := szC MC) (L := lkR MR) (fun t ht => lkC_SB hS ht) 12 _ _ (SB.one ht)
  refine h1.eq (sbI_SB _) (fun k _ => ?_)
  rw [nI_clamp (by omega)]
theorem kpos {k : Nat} (h : k ≤ 16) : (0 ≤ kdI k) ↔ k < 16 := (by decide : ∀ k, k ≤ 16 → ((0 ≤ kdI k) ↔ k < 16)) k h
theorem fc_hangs : Fc_hangs Rel := by
  intro a0 MC MR hR
  refine fcI (sp_X5_hangs (by decide) a0 hR.1 hR.2.2.2.1.lnC) (sp_X6_hangs (by decide) a0 hR.2.1 hR.2.2.1) ?_ hR
  obtain ⟨hT, -, -, ⟨κ, ζ, hS⟩, -⟩ := hR
  unfold sX5_hangs sX6_hangs
  rcases slot_cases a0 with ⟨s1, s2⟩ | ⟨t, ht, rfl, s1, s2⟩
  · unfold sX5_slotError
    rw [s1, s2]
    rfl
  · rw [slotE_of ht (hS t ht) s1, s2, if_neg (by decide : ¬ bz true = 0), nI_clamp (by omega), (hS t ht).2.2.2.1, hgF_hanging hS ht]
    unfold eS
    by_cases c : κ t = 16
    · rw [c]; rfl
    · rw [if_neg c, if_pos rfl, if_pos ((kpos (hS t ht).1).mpr (by have := (hS t ht).1; omega))]
def emN (S : Nat → Bool) (x : Nat) (f : Nat → Nat) (t : Nat) : Nat := if S t = true then x else f t
theorem emN_t {S : Nat → Bool} {x : Nat} {f : Nat → Nat} {t : Nat} (h : S t = true) : emN S x f t = x := if_pos h
theorem emN_f {S : Nat → Bool} {x : Nat} {f : Nat → Nat} {t : Nat} (h : ¬ S t = true) : emN S x f t = f t := if_neg h
theorem Rel_empty {MC MR MC' MR' : xM} (hR : Rel MC MR) {κ ζ : Nat → Nat} (hS : ∀ t, t < 12 → RelT MC MR κ ζ t) (S : Nat → Bool) (hclo : ∀ u b, u < 12 → b < 12 → S u = false → lkR MR u b = true → S b = false) (hTC : TC MC') (hTR : TR MR')
    (c1 : ∀ a k, (∀ t, t < 12 → S t = true → ¬ a = 54 + 3 * t) → mI MC' a k = mI MC a k) (c2 : mL MC' = mL MC) (c3 : ∀ t, t < 12 → S t = true → mI MC' (54 + 3 * t) 0 = -1 ∧ mI MC' (54 + 3 * t) 1 = 0)
    (r1 : ∀ a, a ≠ 1 → mI MR' a = mI MR a) (r2 : mL MR' = mL MR) (r3 : ∀ t, t < 12 → mI MR' 1 t = if S t = true then -1 else mI MR 1 t) : Rel MC' MR' := by
  obtain ⟨h1, h2, h3, -, ⟨len, pos, b1, b2, b3, b4, b5, b6, b7⟩, ⟨⟨m, hm, m1, m2⟩, o1, o2, o3, o4⟩⟩ := hR
  have c0 : ∀ a k, a < 54 → mI MC' a k = mI MC a k := fun a k ha => c1 a k (fun t _ _ => by omega)
  refine ⟨hTC, hTR, h3.k (r1 2 (by decide)), ⟨emN S 16 κ, emN S 0 ζ, fun u hu => ?_⟩, ⟨len, pos, b1, b2, ?_, ?_, ?_, ?_, ?_⟩, ⟨m, hm, ?_, ?_⟩, ?_, ?_, ?_, ?_⟩
  · obtain ⟨g1, g2, g3, g4, g5, g6, g7, g8, g9⟩ := hS u hu
    unfold RelT
    by_cases c : S u = true
    · rw [emN_t c, emN_t c, r3 u hu, if_pos c, (c3 u hu c).1, (c3 u hu c).2]
      exact ⟨Nat.le_refl _, by omega, rfl, rfl, rfl, fun z => absurd z (by omega), fun _ => rfl, fun _ z => absurd z (by omega), fun i hi => absurd hi (by omega)⟩
    · rw [emN_f c, emN_f c, r3 u hu, if_neg c, c1 (54 + 3 * u) 0 (fun t _ h e => c (by rw [show u = t by omega]; exact h)), c1 (54 + 3 * u) 1 (fun t _ h e => c (by rw [show u = t by omega]; exact h)), r1 2 (by decide), r1 4 (by decide), r2, c2]
      refine ⟨g1, g2, g3, g4, g5, g6, g7, g8, fun i hi => ?_⟩
      obtain ⟨q1, q2, w, q3, q4⟩ := g9 i hi
      refine ⟨?_, q2, w, q3, ?_⟩
      · rw [c1 (54 + 3 * u + 1) i (fun t _ _ => by omega)]; exact q1
      · obtain ⟨k1, k2, k3, k4, k5, k6, k7, k8, k9, k10, k11, k12⟩ := q4
        refine ⟨k1, k2, k3, k4, k5, k6, k7, k8, k9, k10, fun hw => ?_, k12⟩
        obtain ⟨x, x1, x2, x3, x4⟩ := k11 hw
        have hx : S x = false := by
          refine hclo u x hu x1 (Bool.eq_false_iff.mpr c) ?_
          rw [(lkR_eq hS hu x1).1, decide_eq_true (by
            rcases Nat.lt_or_ge (κ u) 14 with z | z
            · exact z
            · have := g7 z; omega), Bool.true_and, any_iff]
          exact ⟨i, by omega, by omega, rLk_t (by rw [q3, hw]; rfl) x2⟩
        have hx' : ¬ S x = true := by rw [hx]; decide
        exact ⟨x, x1, x2, by rw [emN_f hx']; exact x3, fun z => by rw [emN_f hx']; exact x4 z⟩
  · rw [c0 2 _ (by decide)]; exact b3
  · rw [r1 0 (by decide)]; exact b4
  · rw [c0 0 _ (by decide)]; exact b5
  · rw [r1 0 (by decide)]; exact b6
  · intro i hi
    rw [c0 3 _ (by decide), r1 6 (by decide)]; exact b7 i hi
  · rw [c0 0 _ (by decide)]; exact m1
  · rw [r1 0 (by decide)]; exact m2
  · rw [c0 0 _ (by decide), r1 0 (by decide)]; exact o1
  · rw [c0 0 _ (by decide), r1 0 (by decide)]; exact o2
  · intro k hk
    rw [c0 53 _ (by decide), r1 7 (by decide)]; exact o3 k hk
  · intro k hk
    rw [r2]; exact o4 k hk
theorem emp_I (M : xM) (a b k : Nat) (h : b ≠ a) : mI (tX2_beEmpty M a) b k = mI M b k := by
  unfold tX2_beEmpty
  rw [mI_stI_c _ _ _ h, mI_stI_c _ _ _ h]
theorem emp_0 (M : xM) (a : Nat) : mI (tX2_beEmpty M a) a 0 = -1 ∧ mI (tX2_beEmpty M a) a 1 = 0 := by
  unfold tX2_beEmpty
  exact ⟨by rw [mI_stI_o _ _ _ _ (by decide), mI_stI_v], mI_stI_v _ _ _ _⟩
theorem Rel_fill {MC MR : xM} (h : RelS MC MR) : sX5_filledSlots MC = sX6_things MR := by
  unfold sX5_filledSlots sX6_things
  rw [cnt_congr 12 0 0 (fun j _ h2 => by rw [h.emp j (by omega)])]
theorem dr_eq {MC MR : xM} {κ ζ : Nat → Nat} (hS : ∀ t, t < 12 → RelT MC MR κ ζ t) {t o : Nat} (ht : t < 12) (ho : o < 12) : drC MC (nI t) o = drR MR (nI t) o := by
  unfold drC drR
  rw [(lkC_SB hS ho).has ht, nI_clamp (by omega), (lkR_eq hS ho ht).2]
theorem fc_drop : Fc_drop Rel := by
  intro a0 MC MR hR
  have key : sX5_drop MC a0 = sX6_drop MR a0 ∧ Rel (tX5_drop MC a0) (tX6_drop MR a0) := by
    have hR0 := hR
    obtain ⟨hT, hTR, hLen, ⟨κ, ζ, hS⟩, hB, hO⟩ := hR
    unfold sX5_drop sX6_drop tX5_drop tX6_drop
    rcases slot_cases a0 with ⟨s1, s2⟩ | ⟨t, ht, rfl, s1, s2⟩
    · unfold sX5_slotError
      rw [s1, s2]
      exact ⟨rfl, hR0⟩
    · rw [slotE_of ht (hS t ht) s1, s2, if_neg (by decide : ¬ bz true = 0), if_neg (by decide : ¬ bz true = 0), nI_clamp (by omega), (hS t ht).2.2.2.1]
      unfold eS
      by_cases c : κ t = 16
      · rw [c]; exact ⟨rfl, hR0⟩
      · have hp : 0 ≤ kdI (κ t) := (kpos (hS t ht).1).mpr (by have := (hS t ht).1; omega)
        rw [if_neg c, if_pos rfl, if_pos rfl, if_pos hp, if_pos hp, any_co (q := drR MR (nI t)) (fun j _ j2 => dr_eq hS ht (by omega))]
        cases h : any (drR MR (nI t)) 12 0 with
        | true => exact ⟨rfl, hR0⟩
        | false =>
          rw [if_neg (by decide), if_neg (by decide), if_neg (by decide), if_neg (by decide)]
          have hn : Rel (tX2_beEmpty MC (54 + 3 * t)) (stI MR 1 t (-1)) := by
            refine Rel_empty hR0 hS (fun u => decide (u = t)) (fun u b hu hb g1 g2 => ?_) ((sT_X2_beEmpty MC _).TC hT) ((sT.I MR 1 t (-1)).TR hTR) (fun a k g => emp_I MC _ a k (g t ht (decide_eq_true rfl))) rfl (fun u _ g => by rw [of_decide_eq_true g]; exact emp_0 MC _) (fun a g => mI_stI_c _ _ _ g) rfl (fun u hu => ?_)
            · apply decide_eq_false
              intro e
              subst e
              have g1 := of_decide_eq_false g1
              have : any (drR MR (nI b)) 12 0 = true := by
                rw [any_iff]
                refine ⟨u, by omega, by omega, ?_⟩
                unfold drR
                rw [nI_clamp (by omega), (lkR_eq hS hu hb).2, g2, decide_eq_false (fun z => g1 ((by decide : ∀ a, a < 12 → ∀ b, b < 12 → nI a = nI b → a = b) u hu b hb z))]
                rfl
              rw [h] at this
              cases this
            · by_cases e : u = t
              · subst e; rw [mI_stI_v, if_pos (decide_eq_true rfl)]
              · rw [mI_stI_o _ _ _ _ e, if_neg (by rw [decide_eq_false e]; decide)]
          exact ⟨Rel_fill hn.2.2.2.1, hn⟩
  exact fcI (sp_X5_drop (by decide) a0 hR.1 hR.2.2.2.1.lnC) (sp_X6_drop (by decide) a0 hR.2.1 hR.2.2.1) key.1 key.2
-- gather
theorem gaC_m (s : Int32) {p : Nat → Bool} (hs : SB s p) : ∀ n i M k, i + n ≤ 12 → mL (gaC s n i M k).1 = mL M ∧ (∀ a x, (∀ t, i ≤ t → t < i + n → p t = false → ¬ a = 54 + 3 * t) → mI (gaC s n i M k).1 a x = mI M a x) ∧ (∀ t, i ≤ t → t < i + n → p t = false → (mI M (54 + 3 * t) 0 = -1 → mI M (54 + 3 * t) 1 = 0) → mI (gaC s n i M k).1 (54 + 3 * t) 0 = -1 ∧ mI (gaC s n i M k).1 (54 + 3 * t) 1 = 0) ∧ (gaC s n i M k).2 = cnt (fun t => !(p t || cEmp M t)) n i k
  | 0, i, M, k, _ => ⟨rfl, fun _ _ _ => rfl, fun t h1 h2 => by omega, rfl⟩
  | n + 1, i, M, k, hi => by
    have e := hs.has (t := i) (by omega)
    cases c : (sX5_has s (nI i) || sX2_isEmpty M (54 + 3 * i)) with
    | true =>
      rw [gaC_t n k c]
      obtain ⟨g1, g2, g3, g4⟩ := gaC_m s hs n (i + 1) M k (by omega)
      refine ⟨g1, fun a x h => g2 a x (fun t t1 t2 => h t (by omega) (by omega)), fun t t1 t2 t3 t4 => ?_, ?_⟩
      · by_cases q : t = i
        · subst q
          rw [e, t3, Bool.false_or] at c
          have hz : mI M (54 + 3 * t) 0 = -1 := by
            unfold sX2_isEmpty at c
            by_cases z : mI M (54 + 3 * t) 0 = -1
            · exact z
            · rw [if_neg z] at c; cases c
          rw [g2 (54 + 3 * t) 0 (fun u u1 u2 u3 => by omega), g2 (54 + 3 * t) 1 (fun u u1 u2 u3 => by omega)]
          exact ⟨hz, t4 hz⟩
        · exact g3 t (by omega) (by omega) t3 t4
      · rw [g4, cnt_f n k (show (!(p i || cEmp M i)) = false by rw [← e]; unfold cEmp; rw [c]; rfl)]
    | false =>
      rw [gaC_f n k c]
      obtain ⟨g1, g2, g3, g4⟩ := gaC_m s hs n (i + 1) (tX2_beEmpty M (54 + 3 * i)) (k + 1) (by omega)
      have hp : p i = false := by
        rw [← e]
        cases h : sX5_has s (nI i) with
        | true => rw [h] at c; cases c
        | false => rfl
      refine ⟨g1, fun a x h => ?_, fun t t1 t2 t3 t4 => ?_, ?_⟩
      · rw [g2 a x (fun t t1 t2 => h t (by omega) (by omega)), emp_I M _ a x (h i (by omega) (by omega) hp)]
      · by_cases q : t = i
        · subst q
          rw [g2 (54 + 3 * t) 0 (fun u u1 u2 u3 => by omega), g2 (54 + 3 * t) 1 (fun u u1 u2 u3 => by omega)]
          exact emp_0 M _
        · refine g3 t (by omega) (by omega) t3 (fun z => ?_)
          rw [emp_I M _ _ _ (by omega)] at z ⊢
          exact t4 z
      · rw [g4, cnt_t n k (show (!(p i || cEmp M i)) = true by rw [← e]; unfold cEmp; rw [c]; rfl)]
        refine cnt_congr n (i + 1) (k + 1) (fun j j1 j2 => ?_)
        have : cEmp (tX2_beEmpty M (54 + 3 * i)) j = cEmp M j := by
          unfold cEmp sX2_isEmpty
          rw [emp_I M _ _ _ (by omega)]
        rw [this]
theorem gaR_m (s : Int32) {p : Nat → Bool} (hs : SB s p) : ∀ n i M k, i + n ≤ 12 → mL (gaR s n i M k).1 = mL M ∧ (∀ a, a ≠ 1 → mI (gaR s n i M k).1 a = mI M a) ∧ (∀ t, t < i ∨ i + n ≤ t → mI (gaR s n i M k).1 1 t = mI M 1 t) ∧ (∀ t, i ≤ t → t < i + n → (mI M 1 t < 0 → mI M 1 t = -1) → mI (gaR s n i M k).1 1 t = if p t = true then mI M 1 t else -1) ∧ (gaR s n i M k).2 = cnt (fun t => !(p t || rEmp M t)) n i k
  | 0, i, M, k, _ => ⟨rfl, fun _ _ => rfl, fun _ _ => rfl, fun t h1 h2 => by omega, rfl⟩
  | n + 1, i, M, k, hi => by
    have e := hs.bit (t := i) (by omega)
    have hb : decide (¬ (s >>> (nI i &&& 31)) &&& 1 = 0) = p i := by
      rw [e]
      cases p i <;> decide
    cases c : (rEmp M i || p i) with
    | true =>
      rw [gaR_t n k (by rw [hb]; exact c)]
      obtain ⟨g1, g2, g3, g4, g5⟩ := gaR_m s hs n (i + 1) M k (by omega)
      refine ⟨g1, g2, fun t h => g3 t (by omega), fun t t1 t2 t3 => ?_, ?_⟩
      · by_cases q : t = i
        · subst q
          rw [g3 t (by omega)]
          by_cases z : p t = true
          · rw [if_pos z]
          · rw [if_neg z]
            rw [Bool.eq_false_iff.mpr z, Bool.or_false] at c
            exact t3 (of_decide_eq_true c)
        · exact g4 t (by omega) (by omega) t3
      · rw [g5, cnt_f n k (show (!(p i || rEmp M i)) = false by rw [Bool.or_comm, c]; rfl)]
    | false =>
      rw [gaR_f n k (by rw [hb]; exact c)]
      obtain ⟨g1, g2, g3, g4, g5⟩ := gaR_m s hs n (i + 1) (stI M 1 i (-1)) (k + 1) (by omega)
      have hp : ¬ p i = true := by
        intro z
        rw [z, Bool.or_true] at c
        cases c
      refine ⟨g1, fun a ha => (g2 a ha).trans (mI_stI_c _ _ _ ha), fun t h => (g3 t (by omega)).trans (mI_stI_o _ _ _ _ (by omega)), fun t t1 t2 t3 => ?_, ?_⟩
      · by_cases q : t = i
        · subst q
          rw [g3 t (by omega), mI_stI_v, if_neg hp]
        · have := g4 t (by omega) (by omega) (by rw [mI_stI_o _ _ _ _ q]; exact t3)
          rw [mI_stI_o _ _ _ _ q] at this
          exact this
      · rw [g5, cnt_t n k (show (!(p i || rEmp M i)) = true by rw [Bool.or_comm, c]; rfl)]
        refine cnt_congr n (i + 1) (k + 1) (fun j j1 j2 => ?_)
        have : rEmp (stI M 1 i (-1)) j = rEmp M j := by
          unfold rEmp
          rw [mI_stI_o _ _ _ _ (by omega)]
        rw [this]
theorem fc_gather : Fc_gather Rel := by
  intro a0 MC MR hR
  have key : sX5_gather MC a0 = sX6_gather MR a0 ∧ Rel (tX5_gather MC a0) (tX6_gather MR a0) := by
    have hR0 := hR
    obtain ⟨hT, hTR, hLen, hSS, hB, hO⟩ := hR
    have hemp := hSS.emp
    obtain ⟨κ, ζ, hS⟩ := hSS
    unfold sX5_gather sX6_gather tX5_gather tX6_gather
    rcases slot_cases a0 with ⟨s1, s2⟩ | ⟨t, ht, rfl, s1, s2⟩
    · unfold sX5_slotError
      rw [s1, s2]
      exact ⟨rfl, hR0⟩
    · rw [slotE_of ht (hS t ht) s1, s2, if_neg (by decide : ¬ bz true = 0), if_neg (by decide : ¬ bz true = 0), nI_clamp (by omega), (hS t ht).2.2.2.1, hgF_hanging hS ht]
      unfold eS
      by_cases c : κ t = 16
      · rw [c]; exact ⟨rfl, hR0⟩
      · have hp : 0 ≤ kdI (κ t) := (kpos (hS t ht).1).mpr (by have := (hS t ht).1; omega)
        rw [if_neg c, if_pos rfl, if_pos rfl, if_pos hp, if_pos hp]
        have hsb : SB (sX6_hanging MR (nI t)) (hgP (lkR MR) 12 (fun k => decide (k = t))) := by
          have := sbI_SB (hgP (lkR MR) 12 (fun k => decide (k = (nI t).toNatClampNeg)))
          rw [nI_clamp (by omega)] at this
          unfold sX6_hanging
          rw [nI_clamp (by omega)]
          exact this
        have hcl : clo (lkR MR) (hgP (lkR MR) 12 (fun k => decide (k = t))) := hgP_clo ht (decide_eq_true rfl)
        generalize sX6_hanging MR (nI t) = s at hsb ⊢
        generalize hgP (lkR MR) 12 (fun k => decide (k = t)) = p at hsb hcl
        obtain ⟨a1, a2, a3, a4⟩ := gaC_m s hsb 12 0 MC 0 (by omega)
        obtain ⟨d1, d2, d3, d4, d5⟩ := gaR_m s hsb 12 0 MR 0 (by omega)
        refine ⟨?_, ?_⟩
        · rw [a4, d5, cnt_congr 12 0 0 (fun j _ h2 => by rw [hemp j (by omega)])]
        · refine Rel_empty hR0 hS (fun u => !p u) (fun u b hu hb g1 g2 => ?_) ((gaC_sT s 12 0 MC 0).TC hT) ((gaR_sT s 12 0 MR 0).TR hTR) (fun a k g => a2 a k (fun u _ u2 u3 => g u (by omega) (by rw [u3]; rfl))) a1 (fun u hu g => a3 u (by omega) (by omega) (by cases h : p u with
            | true => rw [h] at g; cases g
            | false => rfl) (fun z => ?_)) d2 d1 (fun u hu => ?_)
          · have g1 : p u = true := by cases h : p u with
              | true => rfl
              | false => rw [h] at g1; cases g1
            rw [hcl u b hu hb g1 g2]
            rfl
          · obtain ⟨g1, g2, g3, g4, g5, g6, g7, -⟩ := hS u hu
            rw [g3] at z
            have : κ u = 16 := (by decide : ∀ k, k ≤ 16 → kdI k = -1 → k = 16) _ g1 z
            rw [g5, g7 (by omega)]
            rfl
          · rw [d4 u (by omega) (by omega) (fun z => by
              rw [(hS u hu).2.2.2.1] at z ⊢
              exact (by decide : ∀ k, k ≤ 16 → kdI k < 0 → kdI k = -1) _ (hS u hu).1 z)]
            cases p u <;> rfl
  exact fcI (sp_X5_gather (by decide) a0 hR.1 hR.2.2.2.1.lnC) (sp_X6_gather (by decide) a0 hR.2.1 hR.2.2.1) key.1 key.2
-- far
theorem faM_SB {M : xM} {w : Int32} : ∀ n b x q, b + n ≤ 12 → SB x q → (∀ k, b ≤ k → q k = false) → SB (faM M w n b x) (fun k => q k || (decide (b ≤ k ∧ k < b + n) && any (faB M w k) 12 0))
  | 0, b, x, q, _, h, _ => by
    refine h.co (fun k _ => ?_)
    show q k = _
    rw [decide_eq_false (by omega), Bool.false_and, Bool.or_false]
  | n + 1, b, x, q, hb, h, hq => by
    show SB (faM M w n (b + 1) (x + (if any (faB M w b) 12 0 = true then (1 : Int32) <<< (nI b &&& 31) else 0))) _
    cases c : any (faB M w b) 12 0 with
    | true =>
      rw [if_pos rfl]
      refine (faM_SB n (b + 1) _ _ (by omega) (h.add (t := b) (by omega) (hq b (by omega))) (fun k hk => ?_)).co (fun k _ => ?_)
      · show (q k || decide (k = b)) = false
        rw [hq k (by omega), decide_eq_false (by omega)]; rfl
      · show (q k || decide (k = b) || (decide (b + 1 ≤ k ∧ k < b + 1 + n) && any (faB M w k) 12 0)) = (q k || (decide (b ≤ k ∧ k < b + (n + 1)) && any (faB M w k) 12 0))
        by_cases e : k = b
        · subst e
          rw [c, decide_eq_true rfl, decide_eq_true (by omega : k ≤ k ∧ k < k + (n + 1))]; simp
        · rw [decide_eq_false e, Bool.or_false, decide_eq_decide.mpr (by omega : (b + 1 ≤ k ∧ k < b + 1 + n) ↔ (b ≤ k ∧ k < b + (n + 1)))]
    | false =>
      rw [if_neg (by decide), Int32.add_zero]
      refine (faM_SB n (b + 1) _ _ (by omega) h (fun k hk => hq k (by omega))).co (fun k _ => ?_)
      show (q k || (decide (b + 1 ≤ k ∧ k < b + 1 + n) && any (faB M w k) 12 0)) = (q k || (decide (b ≤ k ∧ k < b + (n + 1)) && any (faB M w k) 12 0))
      by_cases e : k = b
      · subst e
        rw [c]; simp
      · rw [decide_eq_decide.mpr (by omega : (b + 1 ≤ k ∧ k < b + 1 + n) ↔ (b ≤ k ∧ k < b + (n + 1)))]
theorem faM_img {M : xM} {w : Int32} {p : Nat → Bool} (h : SB w p) : SB (faM M w 12 0 0) (img (lkR M) p) := by
  refine (faM_SB 12 0 0 _ (by omega) SB.z (fun _ _ => rfl)).co (fun k hk => ?_)
  show (false || (decide (0 ≤ k ∧ k < 0 + 12) && any (faB M w k) 12 0)) = _
  rw [decide_eq_true (by omega), Bool.true_and, Bool.false_or]
  unfold img
  refine any_co (fun j _ j2 => ?_)
  unfold faB
  rw [h.bit (by omega)]
  cases p j <;> rfl
theorem far_eq {MC MR : xM} {κ ζ : Nat → Nat} (hS : ∀ t, t < 12 → RelT MC MR κ ζ t) {u : Nat} (hu : u < 12) : ∀ n i w w0 U V A0, SB w U → SB w0 A0 → (∀ k, k < 12 → U k = (V k || img (lkR MR) A0 k)) → V u = false → (∀ k, k < 12 → img (lkR MR) V k = true → U k = true) → faC MC (nI u) n i w = faR MR (nI u) n i w0
  | 0, _, _, _, _, _, _, _, _, _, _, _ => rfl
  | n + 1, i, w, w0, U, V, A0, h1, h2, h3, h4, h5 => by
    have e1 := h1.has hu
    have hA := faM_img (M := MR) h2
    have e2 := hA.bit hu
    have e3 : U u = img (lkR MR) A0 u := by rw [h3 u hu, h4, Bool.false_or]
    cases c : img (lkR MR) A0 u with
    | true => rw [faC_t n i (by rw [e1, e3, c]), faR_t n i (by rw [e2, c]; rfl)]
    | false =>
      rw [faC_f n i (by rw [e1, e3, c]), faR_f n i (by rw [e2, c]; decide)]
      have hI := laF_img (M := MC) (Z := szC MC) (L := lkR MR) (fun t ht => lkC_SB hS ht) h1
      refine far_eq hS hu n (i + 1) _ _ _ U _ (h1.or hI) hA (fun k hk => ?_) (e3.trans c) (fun k hk z => ?_)
      · apply Bool.eq_iff_iff.mpr
        rw [Bool.or_eq_true, Bool.or_eq_true]
        constructor
        · rintro (z | z)
          · exact Or.inl z
          · obtain ⟨a, a1, a2, a3⟩ := img_iff.mp z
            rw [h3 a a1, Bool.or_eq_true] at a2
            rcases a2 with a2 | a2
            · exact Or.inl (h5 k hk (img_iff.mpr ⟨a, a1, a2, a3⟩))
            · exact Or.inr (img_iff.mpr ⟨a, a1, a2, a3⟩)
        · rintro (z | z)
          · exact Or.inl z
          · obtain ⟨a, a1, a2, a3⟩ := img_iff.mp z
            exact Or.inr (img_iff.mpr ⟨a, a1, by rw [h3 a a1, a2, Bool.or_true], a3⟩)
      · show (U k || img (lkR MR) U k) = true
        rw [z, Bool.or_true]
theorem slotP_of {MC MR : xM} {κ ζ : Nat → Nat} (hS : ∀ t, t < 12 → RelT MC MR κ ζ t) (x y : Int32) : (sX5_slotPairError MC x y = -1 ∧ (sX6_isThing x.toInt64 = false ∨ sX6_isThing y.toInt64 = false)) ∨ (∃ t u, t < 12 ∧ u < 12 ∧ x = nI t ∧ y = nI u ∧ sX6_isThing x.toInt64 = true ∧ sX6_isThing y.toInt64 = true ∧ sX5_slotPairError MC x y = sX5_firstError (eS (κ t)) (eS (κ u))) := by
  unfold sX5_slotPairError
  rcases slot_cases x with ⟨s1, s2⟩ | ⟨t, ht, rfl, s1, s2⟩
  · refine Or.inl ⟨?_, Or.inl s2⟩
    have e : sX5_slotError MC x = -1 := by unfold sX5_slotError; rw [s1]; rfl
    rw [e]
    rcases slot_cases y with ⟨r1, r2⟩ | ⟨u, hu, rfl, r1, r2⟩
    · have e : sX5_slotError MC y = -1 := by unfold sX5_slotError; rw [r1]; rfl
      rw [e]; rfl
    · rw [slotE_of hu (hS u hu) r1]
      unfold eS
      split <;> decide
  · rcases slot_cases y with ⟨r1, r2⟩ | ⟨u, hu, rfl, r1, r2⟩
    · refine Or.inl ⟨?_, Or.inr r2⟩
      have e : sX5_slotError MC y = -1 := by unfold sX5_slotError; rw [r1]; rfl
      rw [e, slotE_of ht (hS t ht) s1]
      unfold eS
      split <;> decide
    · exact Or.inr ⟨t, u, ht, hu, rfl, rfl, s2, r2, by rw [slotE_of ht (hS t ht) s1, slotE_of hu (hS u hu) r1]⟩
theorem fc_far : Fc_far Rel := by
  intro a0 a1 MC MR hR
  refine fcI (sp_X5_far (by decide) a0 a1 hR.1 hR.2.2.2.1.lnC) (sp_X6_far (by decide) a0 a1 hR.2.1 hR.2.2.1) ?_ hR
  obtain ⟨hT, -, -, ⟨κ, ζ, hS⟩, -⟩ := hR
  unfold sX5_far sX6_far
  rcases slotP_of hS a0 a1 with ⟨e, h⟩ | ⟨t, u, ht, hu, rfl, rfl, s1, s2, e⟩
  · rw [e, if_neg (by decide)]
    rcases h with h | h
    · rw [h]; rfl
    · rw [h]
      by_cases q : bz (sX6_isThing a0.toInt64) = 0
      · rw [if_pos q]
      · rw [if_neg q]; rfl
  · rw [e, s1, s2, if_neg (by decide : ¬ bz true = 0), if_neg (by decide : ¬ bz true = 0), nI_clamp (by omega), nI_clamp (by omega), (hS t ht).2.2.2.1, (hS u hu).2.2.2.1]
    unfold eS
    by_cases c1 : κ t = 16
    · rw [c1]
      by_cases c2 : κ u = 16
      · rw [c2]; rfl
      · rw [if_neg c2]; rfl
    · have p1 : 0 ≤ kdI (κ t) := (kpos (hS t ht).1).mpr (by have := (hS t ht).1; omega)
      rw [if_neg c1, if_neg (Int32.not_lt.mpr p1)]
      by_cases c2 : κ u = 16
      · rw [c2]; rfl
      · have p2 : 0 ≤ kdI (κ u) := (kpos (hS u hu).1).mpr (by have := (hS u hu).1; omega)
        rw [if_neg c2, if_pos p2, if_pos (by rfl)]
        refine far_eq hS hu 12 1 _ _ _ (fun _ => false) (fun k => decide (k = t)) (lkC_SB hS ht) (SB.one ht) (fun k hk => ?_) rfl (fun k hk z => ?_)
        · rw [Bool.false_or]
          apply Bool.eq_iff_iff.mpr
          rw [img_iff]
          constructor
          · intro z; exact ⟨t, ht, decide_eq_true rfl, z⟩
          · rintro ⟨a, a1, a2, a3⟩
            rw [← of_decide_eq_true a2]; exact a3
        · obtain ⟨a, a1, a2, a3⟩ := img_iff.mp z
          cases a2
