-- COMPARING LISTS; WHAT STAYS WHILE FINDING
theorem fdN_or (A B : Nat → Int32) : ∀ n i, (i ≤ fdN A B n i ∧ fdN A B n i < i + n ∧ ¬ A (fdN A B n i) = B (fdN A B n i)) ∨ (fdN A B n i = i + n ∧ ∀ j, i ≤ j → j < i + n → A j = B j)
  | 0, i => Or.inr ⟨rfl, fun j h1 h2 => by omega⟩
  | n + 1, i => by
    by_cases c : A i = B i
    · have e : fdN A B (n + 1) i = fdN A B n (i + 1) := if_pos c
      rw [e]
      rcases fdN_or A B n (i + 1) with ⟨h1, h2, h3⟩ | ⟨h1, h2⟩
      · exact Or.inl ⟨by omega, by omega, h3⟩
      · refine Or.inr ⟨by omega, fun j g1 g2 => ?_⟩
        by_cases q : j = i
        · rw [q]; exact c
        · exact h2 j (by omega) (by omega)
    · have e : fdN A B (n + 1) i = i := if_neg c
      rw [e]
      exact Or.inl ⟨Nat.le_refl _, by omega, c⟩
theorem gD_e {l : List Int32} {i : Nat} (h : i < l.length) : l.getD i 0 = l[i] := by
  rw [List.getD_eq_getElem?_getD, List.getElem?_eq_getElem h]
  rfl
theorem fdR_l {e : Int32} {A B : Nat → Int32} {l1 l2 : List Int32} (hA : ∀ i, i < l1.length → A i = l1.getD i 0) (hB : ∀ i, i < l2.length → B i = l2.getD i 0) : (l1 = l2 → fdR e A B (min l1.length l2.length) 0 (min l1.length l2.length) (l1.length = l2.length) = e) ∧ (¬ l1 = l2 → ∃ k, k ≤ l1.length ∧ fdR e A B (min l1.length l2.length) 0 (min l1.length l2.length) (l1.length = l2.length) = nI k) := by
  unfold fdR
  rcases fdN_or A B (min l1.length l2.length) 0 with ⟨h1, h2, h3⟩ | ⟨h1, h2⟩
  · rw [if_pos (by omega)]
    refine ⟨fun q => ?_, fun q => ⟨_, by omega, rfl⟩⟩
    exfalso
    apply h3
    rw [hA _ (by omega), hB _ (by omega), q]
  · rw [if_neg (by omega)]
    refine ⟨fun q => if_pos (by rw [q]), fun q => ?_⟩
    by_cases c : l1.length = l2.length
    · exfalso
      apply q
      refine List.ext_getElem c (fun i g1 g2 => ?_)
      have := h2 i (Nat.zero_le _) (by omega)
      rw [hA i g1, hB i g2, gD_e g1, gD_e g2] at this
      exact this
    · rw [if_neg c]
      exact ⟨_, by omega, rfl⟩
theorem nI_m4 {k : Nat} (h : k < 2 ^ 31) : ¬ nI k = -4 := fun z => by
  have := congrArg Int32.toInt z
  rw [nI_toInt h] at this
  have e : (-4 : Int32).toInt = -4 := rfl
  omega
theorem sp_fdl {d : Nat} (hd : 1 ≤ d) {M : xM} {l1 l2 : List Int32} (hT : TC M) (h1 : mI M 4 1 = nI l1.length) (h2 : mI M 6 1 = nI l2.length) (b1 : l1.length ≤ 1464) (b2 : l2.length ≤ 1464) (c1 : ∀ i, i < l1.length → mI M 5 i = l1.getD i 0) (c2 : ∀ i, i < l2.length → mI M 7 i = l2.getD i 0) : (l1 = l2 → Sp (fX3_firstDifference d) [.ref 4, .ref 6] M (dt (some (.int (-4))) M)) ∧ (¬ l1 = l2 → ∃ x, ¬ x = -4 ∧ Sp (fX3_firstDifference d) [.ref 4, .ref 6] M (dt (some (.int x)) M)) := by
  have h := sp_fd hd hT h1 h2 b1 b2
  obtain ⟨q1, q2⟩ := fdR_l (e := -4) c1 c2
  refine ⟨fun z => ?_, fun z => ?_⟩
  · rw [q1 z] at h; exact h
  · obtain ⟨k, k1, k2⟩ := q2 z
    rw [k2] at h
    exact ⟨_, nI_m4 (by omega), h⟩
theorem sp_unl {d : Nat} {M : xM} {l1 l2 : List Int32} (hT : TR M) (h1 : mI M 0 13 = nI l1.length) (h2 : mI M 0 15 = nI l2.length) (b1 : l1.length ≤ 1464) (b2 : l2.length ≤ 1464) (c1 : ∀ i, i < l1.length → mI M 8 i = l1.getD i 0) (c2 : ∀ i, i < l2.length → mI M 9 i = l2.getD i 0) : (l1 = l2 → Sp (fX6_unlike d) [.ref 0] M (dt (some (.int (-1))) M)) ∧ (¬ l1 = l2 → ∃ k, k < 2000 ∧ Sp (fX6_unlike d) [.ref 0] M (dt (some (.int (nI k))) M)) := by
  have h := sp_un (d := d) hT h1 h2 (by omega) (by omega)
  obtain ⟨q1, q2⟩ := fdR_l (e := -1) c1 c2
  refine ⟨fun z => ?_, fun z => ?_⟩
  · rw [q1 z] at h; exact h
  · obtain ⟨k, k1, k2⟩ := q2 z
    rw [k2] at h
    exact ⟨_, by omega, h⟩
/-- whether the item at p is written flat as these bytes -/
def fHit (B : Nat → Nat) (L : Nat) (l : List Int32) (p : Nat) : Bool := match pItem B L p with
  | .ok pr => decide ((itR 0 (rKap pr.2) (rZ pr.2) (rW pr.2) (rV pr.2) 0).1 = l)
  | .error _ => false
def fndB (B : Nat → Nat) (L : Nat) (l : List Int32) : Nat → Nat → Int32
  | 0, _ => -4
  | n + 1, p => if fHit B L l p = true then nI p else fndB B L l n (p + 1)
theorem fnd_t {B : Nat → Nat} {L : Nat} {l : List Int32} {p : Nat} (n : Nat) (h : fHit B L l p = true) : fndB B L l (n + 1) p = nI p := if_pos h
theorem fnd_f {B : Nat → Nat} {L : Nat} {l : List Int32} {p : Nat} (n : Nat) (h : fHit B L l p = false) : fndB B L l (n + 1) p = fndB B L l n (p + 1) := if_neg (by rw [h]; decide)
theorem fHit_e {B : Nat → Nat} {L p f : Nat} (l : List Int32) (h : pItem B L p = .error f) : fHit B L l p = false := by unfold fHit; rw [h]
theorem fHit_k {B : Nat → Nat} {L p : Nat} {pr : Nat × pR} (l : List Int32) (h : pItem B L p = .ok pr) : fHit B L l p = decide ((itR 0 (rKap pr.2) (rZ pr.2) (rW pr.2) (rV pr.2) 0).1 = l) := by unfold fHit; rw [h]
-- the class
def FC (M0 A : xM) : Prop := TC A ∧ (∀ x, x < 6 ∨ 52 ≤ x → mI A x = mI M0 x) ∧ ∀ x, 52 ≤ x → mL A x = mL M0 x
theorem FC.rf {M0 : xM} (h : TC M0) : FC M0 M0 := ⟨h, fun _ _ => rfl, fun _ _ => rfl⟩
theorem FC.rd {M0 A A1 : xM} {q : Nat} (h : FC M0 A) (h1 : CF (itM A 2 q) A1) : FC M0 A1 := by
  obtain ⟨a1, a2, a3⟩ := h
  exact ⟨h1.1.TC (itM_TC a1 (Or.inl rfl)), fun x hx => ((h1.2 x (by omega)).1.trans (itM_I A (by omega))).trans (a2 x hx), fun x hx => ((h1.2 x (by omega)).2).trans (a3 x hx)⟩
theorem FC.wr {M0 A : xM} (h : FC M0 A) (m : Nat) (ms : List Nat) (l : List Int32) : FC M0 (emM (nuM (wrM A 50 6 m) 50 ms) 6 1 (6 + 1) l) := by
  obtain ⟨a1, a2, a3⟩ := h
  exact ⟨(wr_50 a1 m ms l).1, fun x hx => (wr_I A ms l (by omega) (by omega) (by omega) (by omega)).trans (a2 x hx), a3⟩
theorem FC.D {M0 A : xM} {B : Nat → Nat} {L : Nat} (h : FC M0 A) (hL : L ≤ 200) (h2 : mI M0 2 1 = nI L) (hB : ∀ i, i < L → mI M0 3 i = nI (B i) ∧ B i < 256) (q : Nat) : RdS (itM A 2 q) 2 200 B L :=
  itM_D h.1 (Or.inl rfl) h.1.tape (by decide) hL (by rw [h.2.1 2 (by decide)]; exact h2) (fun i hi => by rw [h.2.1 3 (by decide)]; exact hB i hi)
-- the reference
def FRr (M0 C : xM) : Prop := sT M0 C ∧ (∀ x, x = 6 ∨ x = 7 ∨ x = 9 ∨ 14 ≤ x → mI C x = mI M0 x) ∧ (∀ x, x ≠ 3 → x ≠ 5 → mL C x = mL M0 x) ∧ (∀ i, i < 12 → mI C 1 i = mI M0 1 i ∧ mI C 2 i = mI M0 2 i ∧ mL C 3 i = mL M0 3 i) ∧ (∀ i, i < 144 → mI C 4 i = mI M0 4 i ∧ mL C 5 i = mL M0 5 i) ∧ (∀ k, k ≠ 13 → k ≠ 17 → k ≠ 19 → k ≠ 24 → k ≠ 25 → k ≠ 26 → mI C 0 k = mI M0 0 k) ∧ LenR C
theorem FRr.rf {M0 : xM} (h : LenR M0) : FRr M0 M0 := ⟨sT.rf M0, fun _ _ => rfl, fun _ _ _ => rfl, fun _ _ => ⟨rfl, rfl, rfl⟩, fun _ _ => ⟨rfl, rfl⟩, fun _ _ _ _ _ _ _ => rfl, h⟩
theorem FRr.rd {M0 C D : xM} (h : FRr M0 C) (h1 : RFm C D) : FRr M0 D := by
  obtain ⟨a1, a2, a3, a4, a5, a6, a7⟩ := h
  obtain ⟨b1, b2, b3, b4, b5, b6, b7⟩ := h1
  exact ⟨a1.tr b1, fun x hx => (b2 x (by omega) (by omega) (by omega) (by omega) (by omega) (by omega)).trans (a2 x hx), fun x x3 x5 => (b3 x x3 x5).trans (a3 x x3 x5), fun i hi => ⟨(b4 i hi).1.trans (a4 i hi).1, (b4 i hi).2.1.trans (a4 i hi).2.1, (b4 i hi).2.2.trans (a4 i hi).2.2⟩, fun i hi => ⟨(b5 i hi).1.trans (a5 i hi).1, (b5 i hi).2.trans (a5 i hi).2⟩, fun k k1 k2 k3 k4 k5 k6 => (b6 k k3 k4 k5 k6).trans (a6 k k1 k2 k3 k4 k5 k6), b7⟩
theorem FRr.la {M0 C T : xM} {ms : List Nat} (h : FRr M0 C) (h1 : LR C 12 ms [] T) (l : List Int32) : FRr M0 (emM T 0 13 8 l) := by
  obtain ⟨a1, a2, a3, a4, a5, a6, a7⟩ := h
  obtain ⟨b1, b2, b3, b4, -⟩ := h1
  have eI : ∀ x, x ≠ 0 → x ≠ 8 → x ≠ 10 → x ≠ 11 → x ≠ 12 → x ≠ 13 → mI (emM T 0 13 8 l) x = mI C x := fun x x0 x8 y1 y2 y3 y4 => (emM_I _ _ x0 x8).trans (b3 x x0 x8 y1 y2 y3 y4)
  have eL : ∀ x, mL (emM T 0 13 8 l) x = mL C x := fun x => by rw [emM_L, b2]
  refine ⟨(a1.tr b1).tr (sT_emM _ _ _ _ _), fun x hx => (eI x (by omega) (by omega) (by omega) (by omega) (by omega) (by omega)).trans (a2 x hx), fun x x3 x5 => (eL x).trans (a3 x x3 x5), fun i hi => ?_, fun i hi => ?_, fun k k1 k2 k3 k4 k5 k6 => ?_, a7.k (eI 2 (by decide) (by decide) (by decide) (by decide) (by decide) (by decide))⟩
  · rw [eI 1 (by decide) (by decide) (by decide) (by decide) (by decide) (by decide), eI 2 (by decide) (by decide) (by decide) (by decide) (by decide) (by decide), eL]
    exact a4 i hi
  · rw [eI 4 (by decide) (by decide) (by decide) (by decide) (by decide) (by decide), eL]
    exact a5 i hi
  · rw [emM_a _ _ k1 (by decide), b4 k k1 k2 k3]
    exact a6 k k1 k2 k3 k4 k5 k6
theorem FRr.D {M0 C : xM} {B : Nat → Nat} {L : Nat} (h : FRr M0 C) (hS : RfS M0 B L) : RfS C B L := hS.k h.1 (h.2.2.2.2.2.1 23 (by decide) (by decide) (by decide) (by decide) (by decide) (by decide)) (h.2.1 14 (by decide))
theorem Rel_FR {MC MR A : xM} (hR : Rel MC MR) (h : FRr MR A) : Rel MC A := by
  obtain ⟨h1, h2, h3, h4, h5, h6, h7⟩ := h
  have hr : ∀ κ ζ t, t < 12 → RelT MC MR κ ζ t → RelT MC A κ ζ t := fun κ ζ t ht q => q.k (fun _ => rfl) (fun _ _ => rfl) (fun _ _ => rfl) (h4 t ht).1 (h4 t ht).2.1 (h4 t ht).2.2 (fun i hi => (h5 _ (by omega)).1) (fun i hi => (h5 _ (by omega)).2)
  obtain ⟨a1, a2, a3, ⟨κ, ζ, hS⟩, ⟨len, pos, b1, b2, b3, b4, b5, b6, b7⟩, ⟨⟨m, hm, m1, m2⟩, o1, o2, o3, o4⟩⟩ := hR
  have e0 : ∀ k, 6 ≤ k → k ≤ 10 → mI A 0 k = mI MR 0 k := fun k g1 g2 => h6 k (by omega) (by omega) (by omega) (by omega) (by omega) (by omega)
  refine ⟨a1, h1.TR a2, h7, ⟨κ, ζ, fun t ht => hr _ _ _ ht (hS t ht)⟩, ⟨len, pos, b1, b2, b3, ?_, b5, ?_, ?_⟩, ⟨m, hm, m1, ?_⟩, ?_, ?_, ?_, ?_⟩
  · rw [e0 6 (by decide) (by decide)]; exact b4
  · rw [e0 7 (by decide) (by decide)]; exact b6
  · intro i hi
    rw [h2 6 (by decide)]; exact b7 i hi
  · rw [e0 8 (by decide) (by decide)]; exact m2
  · rw [e0 9 (by decide) (by decide)]; exact o1
  · rw [e0 10 (by decide) (by decide)]; exact o2
  · intro k hk
    rw [h2 7 (by decide)]; exact o3 k hk
  · intro k hk
    rw [h3 18 (by decide) (by decide)]; exact o4 k hk
theorem Rel_FC {MC MR A : xM} (hR : Rel MC MR) (h : FC MC A) : Rel A MR := (Rel_scrC2 hR h.1 (fun a ha => h.2.1 a (by omega)) (fun a ha => h.2.2 a (by omega))).1
