-- SLACK: what stays, and what is counted
def upB (B : Nat → Nat) (i b : Nat) : Nat → Nat := fun j => if j = i then b else B j
def sHit (B : Nat → Nat) (L p i b : Nat) : Bool := match pItem (upB B i b) L p with
  | .ok _ => true
  | .error _ => false
theorem sHit_e {B : Nat → Nat} {L p i b f : Nat} (h : pItem (upB B i b) L p = .error f) : sHit B L p i b = false := by unfold sHit; rw [h]
theorem sHit_k {B : Nat → Nat} {L p i b : Nat} {pr : Nat × pR} (h : pItem (upB B i b) L p = .ok pr) : sHit B L p i b = true := by unfold sHit; rw [h]
theorem cnt_all {q : Nat → Bool} : ∀ n i k, (∀ j, i ≤ j → j < i + n → q j = true) → cnt q n i k = k + n
  | 0, _, _, _ => rfl
  | n + 1, i, k, h => by
    rw [cnt_t n k (h i (Nat.le_refl _) (by omega)), cnt_all n (i + 1) (k + 1) (fun j h1 h2 => h j (by omega) (by omega))]
    omega
theorem cnt_non {q : Nat → Bool} : ∀ n i k, (∀ j, i ≤ j → j < i + n → q j = false) → cnt q n i k = k
  | 0, _, _, _ => rfl
  | n + 1, i, k, h => by
    rw [cnt_f n k (h i (Nat.le_refl _) (by omega)), cnt_non n (i + 1) k (fun j h1 h2 => h j (by omega) (by omega))]
theorem sHit_far {B : Nat → Nat} {L p i : Nat} (hB : ∀ i, i < L → B i < 256) (h : i < p ∨ hzP (pItem B L p) ≤ i) (b : Nat) : pItem (upB B i b) L p = pItem B L p := pItem_ag hB (fun j h1 h2 => if_neg (by omega))
theorem upB_b {B : Nat → Nat} {L i b : Nat} (hB : ∀ j, j < L → B j < 256) (hb : b < 256) : ∀ j, j < L → upB B i b j < 256 := by
  intro j hj
  unfold upB
  split
  · exact hb
  · exact hB j hj
-- the class
def SCl (M0 : xM) (i : Nat) (A : xM) : Prop := TC A ∧ (∀ x, (x < 8 ∧ x ≠ 3) ∨ 46 ≤ x → mI A x = mI M0 x) ∧ (∀ j, j ≠ i → mI A 3 j = mI M0 3 j) ∧ ∀ x, 46 ≤ x → mL A x = mL M0 x
theorem SCl.rf {M0 : xM} (h : TC M0) (i : Nat) : SCl M0 i M0 := ⟨h, fun _ _ => rfl, fun _ _ => rfl, fun _ _ => rfl⟩
theorem SCl.st {M0 A : xM} {i : Nat} (h : SCl M0 i A) (v : Int32) : SCl M0 i (stI A 3 i v) :=
  ⟨(sT.I A 3 i v).TC h.1, fun x hx => (mI_stI_c _ _ _ (by omega)).trans (h.2.1 x hx), fun j hj => (mI_stI_o _ _ _ _ hj).trans (h.2.2.1 j hj), h.2.2.2⟩
theorem SCl.rd {M0 A A1 : xM} {i q : Nat} (h : SCl M0 i A) (h1 : CF (itM A 2 q) A1) : SCl M0 i A1 := by
  obtain ⟨a1, a2, a3, a4⟩ := h
  exact ⟨h1.1.TC (itM_TC a1 (Or.inl rfl)), fun x hx => ((h1.2 x (by omega)).1.trans (itM_I A (by omega))).trans (a2 x hx), fun j hj => (congrFun ((h1.2 3 (by decide)).1.trans (itM_I A (by decide))) j).trans (a3 j hj), fun x hx => ((h1.2 x (by omega)).2).trans (a4 x hx)⟩
theorem SCl.D {M0 A : xM} {B : Nat → Nat} {L i b : Nat} (h : SCl M0 i A) (hL : L ≤ 200) (h2 : mI M0 2 1 = nI L) (hB : ∀ j, j < L → mI M0 3 j = nI (B j) ∧ B j < 256) (hb : b < 256) (q : Nat) : RdS (itM (stI A 3 i (nI b)) 2 q) 2 200 (upB B i b) L := by
  have h' := h.st (nI b)
  refine itM_D h'.1 (Or.inl rfl) h'.1.tape (by decide) hL (by rw [h'.2.1 2 (by decide)]; exact h2) (fun j hj => ⟨?_, upB_b (fun j hj => (hB j hj).2) hb j hj⟩)
  unfold upB
  by_cases c : j = i
  · rw [if_pos c, c]; exact mI_stI_v _ _ _ _
  · rw [if_neg c]; exact (h'.2.2.1 j c).trans (hB j hj).1
theorem SCl.rel {M0 A MR : xM} {i : Nat} (hR : Rel M0 MR) (h : SCl M0 i A) : Rel (stI A 3 i (mI M0 3 i)) MR := by
  have h' := h.st (mI M0 3 i)
  refine (Rel_scrC2 hR h'.1 (fun a ha => ?_) (fun a ha => h'.2.2.2 a (by omega))).1
  by_cases c : a = 3
  · subst c
    funext j
    by_cases q : j = i
    · rw [q]; exact mI_stI_v _ _ _ _
    · exact h'.2.2.1 j q
  · exact h'.2.1 a (by omega)
theorem has_k {M : xM} {i L : Nat} (h2 : mI M 2 1 = nI L) (hL : L ≤ 200) (hi : i < L) : sX3_has M 2 (nI i) = true := by
  unfold sX3_has
  rw [if_neg (nI_nn (by omega)), h2]
  first
    | rw [if_neg (fun z => by have := (E32 (by omega) (by omega)).mp z; omega)]
    | rw [if_pos ((L32 (by omega) (by omega)).mpr hi)]
theorem sp_rep {d : Nat} (hd : 1 ≤ d) {M : xM} {i L : Nat} (x : Int32) (hT : TC M) (h2 : mI M 2 1 = nI L) (hL : L ≤ 200) (hi : i < L) : Sp (fX3_replace d) [.ref 2, .int (nI i), .int x] M (dt none (stI M 3 i x)) := by
  have q := sp_X3_replace hd (nI i) x hT.tape ⟨L, hL, by decide, h2⟩
  have e : tX3_replace M 2 (nI i) x = stI M 3 i x := by
    unfold tX3_replace
    rw [has_k h2 hL hi, if_neg (by decide), nI_clamp (by omega)]
  rw [e] at q
  exact q
theorem sp_at2 {d : Nat} {M : xM} {i L : Nat} (hT : TC M) (h2 : mI M 2 1 = nI L) (hL : L ≤ 200) (hi : i < L) : Sp (fX3_at d) [.ref 2, .int (nI i)] M (dt (some (.int (mI M 3 i))) M) := by
  have q := sp_X3_at (d := d) (Nat.zero_le _) (nI i) hT.tape ⟨L, hL, by decide, h2⟩
  have e : sX3_at M 2 (nI i) = mI M 3 i := by
    unfold sX3_at
    rw [if_neg (nI_nn (by omega)), h2, if_neg (fun z => by have := (E32 (by omega) (by omega)).mp z; omega), nI_clamp (by omega)]
  rw [e] at q
  exact q
-- the reference
theorem RFm.t2 {X Y Z : xM} (h : RFm X Y) (h' : RFm Y Z) : RFm X Z := by
  obtain ⟨a1, a2, a3, a4, a5, a6, a7⟩ := h
  obtain ⟨b1, b2, b3, b4, b5, b6, b7⟩ := h'
  exact ⟨a1.tr b1, fun x x0 x1 x2 x4 x12 x13 => (b2 x x0 x1 x2 x4 x12 x13).trans (a2 x x0 x1 x2 x4 x12 x13), fun x x3 x5 => (b3 x x3 x5).trans (a3 x x3 x5), fun i hi => ⟨(b4 i hi).1.trans (a4 i hi).1, (b4 i hi).2.1.trans (a4 i hi).2.1, (b4 i hi).2.2.trans (a4 i hi).2.2⟩, fun i hi => ⟨(b5 i hi).1.trans (a5 i hi).1, (b5 i hi).2.trans (a5 i hi).2⟩, fun k k1 k2 k3 k4 => (b6 k k1 k2 k3 k4).trans (a6 k k1 k2 k3 k4), b7⟩
theorem RFm.s14 {M0 C : xM} {i : Nat} {v : Int32} (h : RFm (stI M0 14 i v) C) (w : Int32) : RFm (stI M0 14 i w) (stI C 14 i w) := by
  obtain ⟨a1, a2, a3, a4, a5, a6, a7⟩ := h
  refine ⟨⟨a1.1, a1.2.1, a1.2.2⟩, fun x x0 x1 x2 x4 x12 x13 => ?_, a3, fun j hj => ?_, fun j hj => ?_, fun k k1 k2 k3 k4 => ?_, a7.k (mI_stI_c _ _ _ (by decide))⟩
  · by_cases c : x = 14
    · subst c
      funext j
      by_cases q : j = i
      · rw [q, mI_stI_v, mI_stI_v]
      · rw [mI_stI_o _ _ _ _ q, mI_stI_o _ _ _ _ q, a2 14 (by decide) (by decide) (by decide) (by decide) (by decide) (by decide), mI_stI_o _ _ _ _ q]
    · rw [mI_stI_c _ _ _ c, mI_stI_c _ _ _ c, a2 x x0 x1 x2 x4 x12 x13, mI_stI_c _ _ _ c]
  · rw [mI_stI_c _ _ _ (by decide), mI_stI_c _ _ _ (by decide), mI_stI_c _ _ _ (by decide), mI_stI_c _ _ _ (by decide)]
    exact a4 j hj
  · rw [mI_stI_c _ _ _ (by decide), mI_stI_c _ _ _ (by decide)]
    exact a5 j hj
  · rw [mI_stI_c _ _ _ (by decide), mI_stI_c _ _ _ (by decide)]
    exact a6 k k1 k2 k3 k4
def SRr (M0 : xM) (i : Nat) (C : xM) : Prop := ∃ v, RFm (stI M0 14 i v) C
theorem SRr.rf {M0 : xM} (h : LenR M0) (i : Nat) : SRr M0 i M0 := ⟨mI M0 14 i, by rw [stI_same rfl]; exact RFm.rf h⟩
theorem SRr.D {M0 C : xM} {B : Nat → Nat} {L i b : Nat} (h : SRr M0 i C) (hS : RfS M0 B L) (hb : b < 256) : RfS (stI C 14 i (nI b)) (upB B i b) L := by
  obtain ⟨v, hv⟩ := h
  obtain ⟨s1, s2, s3, s4⟩ := hS
  have hD := hv.s14 (nI b)
  have e14 := hD.2.1 14 (by decide) (by decide) (by decide) (by decide) (by decide) (by decide)
  refine ⟨hD.1.TR s1, s2, ?_, fun j hj => ⟨?_, upB_b (fun j hj => (s4 j hj).2) hb j hj⟩⟩
  · rw [hD.2.2.2.2.2.1 23 (by decide) (by decide) (by decide) (by decide)]; exact s3
  · rw [e14]
    unfold upB
    by_cases c : j = i
    · rw [if_pos c, c]; exact mI_stI_v _ _ _ _
    · rw [if_neg c, mI_stI_o _ _ _ _ c]; exact (s4 j hj).1
theorem SRr.rd {M0 C C1 : xM} {i : Nat} {w : Int32} (h : SRr M0 i C) (h1 : RFm (stI C 14 i w) C1) : SRr M0 i C1 := by
  obtain ⟨v, hv⟩ := h
  exact ⟨w, (hv.s14 w).t2 h1⟩
theorem SRr.rel {MC M0 C : xM} {i : Nat} (hR : Rel MC M0) (h : SRr M0 i C) : Rel MC C := by
  obtain ⟨v, hv⟩ := h
  exact (Rel_rdR (Rel_scr (MR' := stI M0 14 i v) hR (sT.I _ _ _ _) (fun a a1 a2 => mI_stI_c _ _ _ (by omega)) (fun a _ => rfl) (fun k _ _ => congrFun (mI_stI_c _ _ _ (by decide)) k)).1 hv).1
theorem SRr.T {M0 C : xM} {i : Nat} (hT : TR M0) (h : SRr M0 i C) : TR C ∧ LenR C ∧ mI C 0 7 = mI M0 0 7 := by
  obtain ⟨v, hv⟩ := h
  exact ⟨hv.1.TR ((sT.I M0 14 i v).TR hT), hv.2.2.2.2.2.2, (hv.2.2.2.2.2.1 7 (by decide) (by decide) (by decide) (by decide)).trans (congrFun (mI_stI_c _ _ _ (by decide)) 7)⟩
