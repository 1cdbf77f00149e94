-- WHERE NEW THINGS COME TO STAND
theorem cnt_sk {p : Nat → Bool} : ∀ n i k, cnt p n i (k + 1) = cnt p n i k + 1
  | 0, _, _ => rfl
  | n + 1, i, k => by
    cases e : p i with
    | true => rw [cnt_t n (k + 1) e, cnt_t n k e]; exact cnt_sk n (i + 1) (k + 1)
    | false => rw [cnt_f n (k + 1) e, cnt_f n k e]; exact cnt_sk n (i + 1) k
theorem cnt_mark {p q : Nat → Bool} {j : Nat} (h1 : ∀ t, t ≠ j → q t = p t) (h2 : q j = true) (h3 : p j = false) : ∀ n i k, i ≤ j → j < i + n → cnt q n i k = cnt p n i k + 1
  | 0, i, k, a, b => by omega
  | n + 1, i, k, a, b => by
    by_cases c : i = j
    · subst c
      rw [cnt_t n k h2, cnt_f n k h3, cnt_sk, cnt_congr n (i + 1) k (fun t h _ => h1 t (by omega))]
    · have e := h1 i c
      cases z : p i with
      | true => rw [z] at e; rw [cnt_t n k e, cnt_t n k z]; exact cnt_mark h1 h2 h3 n (i + 1) (k + 1) (by omega) (by omega)
      | false => rw [z] at e; rw [cnt_f n k e, cnt_f n k z]; exact cnt_mark h1 h2 h3 n (i + 1) k (by omega) (by omega)
theorem lst_m1 {p : Nat → Bool} : ∀ n i, i + n < 2 ^ 31 → lst p n i = -1 → ∀ j, i ≤ j → j < i + n → p j = false
  | 0, i, _, _, j, a, b => by omega
  | n + 1, i, hb, h, j, a, b => by
    cases e : p i with
    | true =>
      rw [lst_t n e] at h
      have := congrArg Int32.toInt h
      rw [nI_toInt (by omega)] at this
      have e2 : (-1 : Int32).toInt = -1 := rfl
      omega
    | false =>
      rw [lst_f n e] at h
      by_cases c : j = i
      · rw [c]; exact e
      · exact lst_m1 n (i + 1) (by omega) h j (by omega) (by omega)
def nEm (E : Nat → Bool) (h : Nat → Nat) (k : Nat) : Nat → Bool := fun t => E t && decide (∀ i, i < k → h i ≠ t)
def isHom (E : Nat → Bool) (n : Nat) (h : Nat → Nat) : Prop := ∀ k, k < n → h k < 12 ∧ E (h k) = true ∧ (∀ i, i < k → h i ≠ h k) ∧ lst (nEm E h k) 12 0 = nI (h k)
theorem nEm_0 (E : Nat → Bool) (h : Nat → Nat) : nEm E h 0 = E := by
  funext t
  unfold nEm
  rw [decide_eq_true (fun i hi => absurd hi (Nat.not_lt_zero i)), Bool.and_true]
theorem nEm_c {E : Nat → Bool} {h h' : Nat → Nat} {k : Nat} (e : ∀ i, i < k → h' i = h i) : nEm E h' k = nEm E h k := by
  funext t
  unfold nEm
  have : (∀ i, i < k → h' i ≠ t) ↔ (∀ i, i < k → h i ≠ t) := ⟨fun z i hi => by rw [← e i hi]; exact z i hi, fun z i hi => by rw [e i hi]; exact z i hi⟩
  rw [decide_eq_decide.mpr this]
theorem hom_ex (E : Nat → Bool) : ∀ n, cnt (fun t => !E t) 12 0 0 + n ≤ 12 → ∃ h, isHom E n h ∧ cnt (fun t => !(nEm E h n t)) 12 0 0 = cnt (fun t => !E t) 12 0 0 + n
  | 0, _ => ⟨fun _ => 0, fun k hk => absurd hk (Nat.not_lt_zero k), by rw [nEm_0]; rfl⟩
  | n + 1, hn => by
    obtain ⟨h, h1, h2⟩ := hom_ex E n (by omega)
    rcases lst_or (nEm E h n) 12 0 with e | ⟨j, j1, j2, j3, j4⟩
    · have := cnt_all (q := fun t => !(nEm E h n t)) 12 0 0 (fun t t1 t2 => by rw [lst_m1 12 0 (by decide) e t t1 t2]; rfl)
      omega
    · have j4' := j4
      unfold nEm at j4'
      rw [Bool.and_eq_true] at j4'
      have hj := of_decide_eq_true j4'.2
      have e0 : ∀ i, i < n → (fun i => if i = n then j else h i) i = h i := fun i hi => if_neg (by omega)
      have en : (fun i => if i = n then j else h i) n = j := if_pos rfl
      refine ⟨fun i => if i = n then j else h i, fun k hk => ?_, ?_⟩
      · by_cases c : k = n
        · subst c
          rw [en, nEm_c e0]
          exact ⟨by omega, j4'.1, fun i hi => by rw [e0 i hi]; exact hj i hi, j3⟩
        · have hk' : k < n := by omega
          rw [e0 k hk', nEm_c (fun i hi => e0 i (by omega))]
          obtain ⟨a1, a2, a3, a4⟩ := h1 k hk'
          exact ⟨a1, a2, fun i hi => by rw [e0 i (by omega)]; exact a3 i hi, a4⟩
      · have e2 : ∀ t, nEm E (fun i => if i = n then j else h i) (n + 1) t = (nEm E h n t && decide (j ≠ t)) := by
          intro t
          unfold nEm
          rw [Bool.and_assoc]
          congr 1
          rw [← Bool.decide_and]
          refine decide_eq_decide.mpr ⟨fun z => ⟨fun i hi => ?_, ?_⟩, fun z i hi => ?_⟩
          · have := z i (by omega); rw [e0 i hi] at this; exact this
          · have := z n (by omega); rw [en] at this; exact this
          · by_cases c : i = n
            · rw [c, en]; exact z.2
            · rw [e0 i (by omega)]; exact z.1 i (by omega)
        have m1 : ∀ t, t ≠ j → (fun t => !(nEm E (fun i => if i = n then j else h i) (n + 1) t)) t = (fun t => !(nEm E h n t)) t := fun t ht => by
          show (!(nEm E (fun i => if i = n then j else h i) (n + 1) t)) = !(nEm E h n t)
          rw [e2, decide_eq_true (Ne.symm ht), Bool.and_true]
        have m2 : (fun t => !(nEm E (fun i => if i = n then j else h i) (n + 1) t)) j = true := by
          show (!(nEm E (fun i => if i = n then j else h i) (n + 1) j)) = true
          rw [e2, decide_eq_false (fun z => z rfl), Bool.and_false]; rfl
        have m3 : (fun t => !(nEm E h n t)) j = false := by
          show (!(nEm E h n j)) = false
          rw [j4]; rfl
        rw [cnt_mark m1 m2 m3 12 0 0 (Nat.zero_le _) (by omega), h2]
        omega
theorem cnt_12 {q : Nat → Bool} : ∀ n i k, cnt q n i k ≤ k + n
  | 0, _, _ => Nat.le_refl _
  | n + 1, i, k => by
    cases e : q i with
    | true => rw [cnt_t n k e]; have := cnt_12 (q := q) n (i + 1) (k + 1); omega
    | false => rw [cnt_f n k e]; have := cnt_12 (q := q) n (i + 1) k; omega
-- THE CLASS SETTLES
def vL (h : Nat → Nat) (W : Nat → Nat → Nat) (V : Nat → Nat → Int64) (m i j : Nat) : Int64 := if i < m ∧ W i j = 10 then lN (h (lC (V i j))) else V i j
def SeC (M0 : xM) (h K Z : Nat → Nat) (W : Nat → Nat → Nat) (V : Nat → Nat → Int64) (m k : Nat) (A : xM) : Prop :=
  TC A ∧ (∀ x, x < 52 ∨ x = 53 → mI A x = mI M0 x) ∧ (∀ i, i < k → mI A 52 i = nI (h i)) ∧
  (∀ t, t < 12 → (∀ i, i < k → h i ≠ t) → mI A (54 + 3 * t) = mI M0 (54 + 3 * t) ∧ mI A (54 + 3 * t + 1) = mI M0 (54 + 3 * t + 1) ∧ mL A (54 + 3 * t + 2) = mL M0 (54 + 3 * t + 2)) ∧
  (∀ i, i < k → mI A (54 + 3 * h i) 0 = nI (K i) ∧ mI A (54 + 3 * h i) 1 = nI (Z i) ∧ (14 ≤ K i → mL A (54 + 3 * h i + 2) 0 = V i 0) ∧ ∀ j, j < Z i → mI A (54 + 3 * h i + 1) j = nI (W i j) ∧ mL A (54 + 3 * h i + 2) j = vL h W V m i j) ∧
  ∀ x, x < 54 → mL A x = mL M0 x
/-- what both know of the rows -/
def srcOk (n : Nat) (K Z : Nat → Nat) (W : Nat → Nat → Nat) (V : Nat → Nat → Int64) : Prop := n ≤ 12 ∧ ∀ i, i < n → K i < 16 ∧ Z i ≤ 12 ∧ (14 ≤ K i → Z i = 0) ∧ ∀ j, j < Z i → W i j < 12 ∧ (W i j = 10 → ∃ u, u < n ∧ V i j = lN u)
theorem SeC.rf {M0 : xM} (hT : TC M0) (h K Z : Nat → Nat) (W : Nat → Nat → Nat) (V : Nat → Nat → Int64) : SeC M0 h K Z W V 0 0 M0 := ⟨hT, fun _ _ => rfl, fun i hi => absurd hi (Nat.not_lt_zero i), fun _ _ _ => ⟨rfl, rfl, rfl⟩, fun i hi => absurd hi (Nat.not_lt_zero i), fun _ _ => rfl⟩
theorem SeC.add {M0 A : xM} {h : Nat → Nat} {R : pR} {k : Nat} (hs : SeC M0 h (rK R) (rZ R) (rW R) (rV R) 0 k A) (hR : CSr R M0) (hk : k < R.1) (h12 : h k < 12) (hne : ∀ i, i < k → h i ≠ h k) : SeC M0 h (rK R) (rZ R) (rW R) (rV R) 0 (k + 1) (tX2_beLike (stI A 52 k (nI (h k))) (54 + 3 * h k) (10 + 3 * k)) := by
  obtain ⟨s1, s2, s3, s4, s5, s6⟩ := hs
  obtain ⟨r1, r2⟩ := hR
  obtain ⟨q1, q2, q3, q4, q5, q6⟩ := r2 k hk
  have eI : ∀ x, x ≠ 54 + 3 * h k → x ≠ 54 + 3 * h k + 1 → x ≠ 52 → mI (tX2_beLike (stI A 52 k (nI (h k))) (54 + 3 * h k) (10 + 3 * k)) x = mI A x := fun x a b c => (beL_oI _ _ _ a b).trans (mI_stI_c _ _ _ c)
  have eL : ∀ x, x ≠ 54 + 3 * h k + 2 → mL (tX2_beLike (stI A 52 k (nI (h k))) (54 + 3 * h k) (10 + 3 * k)) x = mL A x := fun x a => beL_oL _ _ _ a
  have b0 : ∀ x, x < 52 → mI (stI A 52 k (nI (h k))) x = mI M0 x := fun x hx => (mI_stI_c _ _ _ (by omega)).trans (s2 x (Or.inl hx))
  have bL : ∀ x, x < 54 → mL (stI A 52 k (nI (h k))) x = mL M0 x := fun x hx => s6 x hx
  refine ⟨((sT.I A 52 k _).tr (sT_X2_beLike _ _ _)).TC s1, fun x hx => (eI x (by omega) (by omega) (by omega)).trans (s2 x hx), fun i hi => ?_, fun t ht hn => ?_, fun i hi => ?_, fun x hx => (eL x (by omega)).trans (s6 x hx)⟩
  · rw [beL_oI _ _ _ (by omega) (by omega)]
    by_cases c : i = k
    · rw [c]; exact mI_stI_v _ _ _ _
    · rw [mI_stI_o _ _ _ _ c]; exact s3 i (by omega)
  · have htk := hn k (by omega)
    obtain ⟨g1, g2, g3⟩ := s4 t ht (fun i hi => hn i (by omega))
    exact ⟨(eI _ (by omega) (by omega) (by omega)).trans g1, (eI _ (by omega) (by omega) (by omega)).trans g2, (eL _ (by omega)).trans g3⟩
  · by_cases c : i = k
    · subst c
      refine ⟨?_, ?_, fun z => ?_, fun j hj => ⟨?_, ?_⟩⟩
      · rw [beL_0, b0 _ (by omega)]; exact q3
      · rw [beL_1, b0 _ (by omega)]; exact q4
      · rw [beL_v _ _ _ (by decide), bL _ (by omega)]; exact q5 z
      · rw [beL_w _ _ _ (by omega) (by omega), b0 _ (by omega)]; exact (q6 j hj).1
      · rw [beL_v _ _ _ (by omega), bL _ (by omega), show vL h (rW R) (rV R) 0 i j = rV R i j from if_neg (by omega)]; exact (q6 j hj).2
    · have hik := hne i (by omega)
      obtain ⟨g1, g2, g3, g4⟩ := s5 i (by omega)
      rw [eI (54 + 3 * h i) (by omega) (by omega) (by omega), eI (54 + 3 * h i + 1) (by omega) (by omega) (by omega), eL (54 + 3 * h i + 2) (by omega)]
      exact ⟨g1, g2, g3, g4⟩
theorem SeC.rel {M0 A : xM} {h K Z : Nat → Nat} {W : Nat → Nat → Nat} {V : Nat → Nat → Int64} {n m : Nat} (hs : SeC M0 h K Z W V m n A) (hok : srcOk n K Z W V) (hm : m < n) (h12 : ∀ i, i < n → h i < 12) (hne : ∀ i j, i < n → j < n → i ≠ j → h i ≠ h j) : SeC M0 h K Z W V (m + 1) n (relM A (54 + 3 * h m) 52 (Z m)) := by
  obtain ⟨s1, s2, s3, s4, s5, s6⟩ := hs
  have eI : ∀ x, mI (relM A (54 + 3 * h m) 52 (Z m)) x = mI A x := fun x => rfl
  have eL : ∀ x, x ≠ 54 + 3 * h m + 2 → mL (relM A (54 + 3 * h m) 52 (Z m)) x = mL A x := fun x hx => mL_flL_ne _ hx
  have hm12 := h12 m hm
  obtain ⟨o1, o2, o3, o4⟩ := hok.2 m hm
  have hn12 := hok.1
  refine ⟨(sT_X2_relink _ _ _ _).TC s1, s2, s3, fun t ht hn => ?_, fun i hi => ?_, fun x hx => (eL x (by omega)).trans (s6 x hx)⟩
  · have := hn m hm
    obtain ⟨g1, g2, g3⟩ := s4 t ht hn
    exact ⟨g1, g2, (eL _ (by omega)).trans g3⟩
  · obtain ⟨g1, g2, g3, g4⟩ := s5 i hi
    by_cases c : i = m
    · subst c
      refine ⟨g1, g2, fun z => ?_, fun j hj => ⟨(g4 j hj).1, ?_⟩⟩
      · have hz := o3 z
        have e : relM A (54 + 3 * h i) 52 (Z i) = A := by rw [hz]; exact flL_0 _ _ _ _
        rw [e]; exact g3 z
      · obtain ⟨p1, p2⟩ := o4 j hj
        obtain ⟨w1, w2⟩ := g4 j hj
        rw [show vL h W V i i j = V i j from if_neg (by omega)] at w2
        have e := mL_flL_at A (a := 54 + 3 * h i + 2) (lo := 0) (g := relG A (54 + 3 * h i) 52) hj
        rw [Nat.zero_add] at e
        show mL (flL A (54 + 3 * h i + 2) 0 (Z i) (relG A (54 + 3 * h i) 52)) (54 + 3 * h i + 2) j = _
        rw [e]
        show (if mI A (54 + 3 * h i + 1) j = 10 then (mI A 52 ((mL A (54 + 3 * h i + 2) j).toInt32).toNatClampNeg).toInt64 else mL A (54 + 3 * h i + 2) j) = _
        rw [w1, w2]
        by_cases c10 : W i j = 10
        · obtain ⟨u, u1, u2⟩ := p2 c10
          have hu12 := h12 u u1
          rw [if_pos (by rw [c10]; rfl), u2, l32 (by omega), nI_clamp (by omega), s3 u u1, nIL (by omega)]
          unfold vL
          rw [if_pos ⟨by omega, c10⟩, u2, lC_N (by omega)]
        · rw [if_neg (fun z => c10 (nI_inj (by omega) (by decide) (z.trans (show (10 : Int32) = nI 10 from rfl))))]
          unfold vL
          rw [if_neg (fun z => c10 z.2)]
    · have hik := hne i m hi hm c
      rw [eI, eI, eL (54 + 3 * h i + 2) (by omega)]
      refine ⟨g1, g2, g3, fun j hj => ⟨(g4 j hj).1, (g4 j hj).2.trans ?_⟩⟩
      unfold vL
      by_cases z : i < m ∧ W i j = 10
      · rw [if_pos z, if_pos ⟨by omega, z.2⟩]
      · rw [if_neg z, if_neg (fun y => z ⟨by omega, y.2⟩)]
