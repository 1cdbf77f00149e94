-- WHAT A READING LOOKS AT
def hzV (q : pV) : Nat := match q with
  | .ok vp => vp.2
  | .error f => f + 10
def hzP (q : pP) : Nat := match q with
  | .ok pr => pr.1
  | .error f => f + 10
def lowV (p : Nat) (q : pV) : Prop := match q with
  | .ok vp => p ≤ vp.2
  | .error f => p ≤ f
def lowP (p : Nat) (q : pP) : Prop := match q with
  | .ok pr => p ≤ pr.1
  | .error f => p ≤ f
theorem lowP.hz {p : Nat} {q : pP} (h : lowP p q) : p ≤ hzP q := by
  cases q with
  | ok pr => exact h
  | error f => exact Nat.le_trans h (Nat.le_add_right f 10)
theorem lowV.hz {p : Nat} {q : pV} (h : lowV p q) : p ≤ hzV q := by
  cases q with
  | ok pr => exact h
  | error f => exact Nat.le_trans h (Nat.le_add_right f 10)
theorem lowP.t {p p' : Nat} {q : pP} (hp : p' ≤ p) (h : lowP p q) : lowP p' q := by
  cases q with
  | ok pr => exact Nat.le_trans hp h
  | error f => exact Nat.le_trans hp h
def agB (B B' : Nat → Nat) (lo hi : Nat) : Prop := ∀ i, lo ≤ i → i < hi → B' i = B i
theorem agB.t {B B' : Nat → Nat} {lo hi lo' hi' : Nat} (h : agB B B' lo hi) (h1 : lo ≤ lo') (h2 : hi' ≤ hi) : agB B B' lo' hi' := fun i g1 g2 => h i (by omega) (by omega)
theorem folB_ag {B B' : Nat → Nat} : ∀ {n p : Nat} {v : Int64}, agB B B' p (p + n) → folB B' n p v = folB B n p v
  | 0, _, _, _ => rfl
  | n + 1, p, v, h => by
    show folB B' n (p + 1) ((v <<< ((Int32.toInt64 8) &&& 63)) ||| lN (B' p)) = folB B n (p + 1) ((v <<< ((Int32.toInt64 8) &&& 63)) ||| lN (B p))
    rw [h p (Nat.le_refl _) (by omega), folB_ag (h.t (by omega) (by omega))]
theorem sgB_ag {B B' : Nat → Nat} {n p : Nat} (hn : 0 < n) (h : agB B B' p (p + n)) : sgB B' p n = sgB B p n := by
  unfold sgB
  rw [h p (Nat.le_refl _) (by omega), folB_ag h]
theorem numV_ag {B B' : Nat → Nat} {k p : Nat} (hk : k < 8) (h : agB B B' p (p + wid2 k)) : numV B' k p = numV B k p := by
  have hw := wd_p k hk
  unfold numV
  by_cases c : k < 6
  · have e : wid2 k = wdK k := if_pos c
    rw [e] at h
    have e2 : numI B' k p = numI B k p := by
      unfold numI
      rw [sgB_ag hw.1 h]
    rw [if_pos c, if_pos c, e2]
  · have e : wid2 k = wdK k + 1 := if_neg c
    rw [e] at h
    rw [if_neg c, if_neg c, h p (Nat.le_refl _) (by omega), sgB_ag hw.1 (h.t (by omega) (by omega))]
theorem wid2_9 {k : Nat} (hk : k < 8) : wid2 k ≤ 9 := by
  have := wd_p k hk
  unfold wid2
  split <;> omega
theorem pNum_ag {B B' : Nat → Nat} {L k p : Nat} (hk : k < 8) (h : agB B B' p (hzV (pNum B L k p))) : pNum B' L k p = pNum B L k p := by
  have h9 := wid2_9 hk
  unfold pNum at h ⊢
  by_cases c : p + wid2 k ≤ L
  · rw [if_pos c] at h ⊢
    rw [if_pos c]
    have hag : agB B B' p (p + wid2 k) := by
      cases e : numV B k p with
      | some v => rw [e] at h; exact h
      | none => rw [e] at h; exact h.t (Nat.le_refl _) (show p + wid2 k ≤ p + 10 by omega)
    rw [numV_ag hk hag]
  · rw [if_neg c, if_neg c]
theorem pNum_lo {B : Nat → Nat} {L k p : Nat} : lowV p (pNum B L k p) := by
  unfold pNum
  split
  · split
    · exact Nat.le_add_right p (wid2 k)
    · exact Nat.le_refl p
  · exact Nat.le_refl p
theorem pStep_lo {B : Nat → Nat} {L p : Nat} : ∀ {g n : Nat} {v : Int64} {vp : Int64 × Nat}, pStep B L p g n v = .ok vp → p + n < vp.2 ∧ vp.2 ≤ p + (n + g)
  | 0, _, _, _, h => by cases h
  | g + 1, n, v, vp, h => by
    unfold pStep at h
    split at h
    · split at h
      · cases h
      · split at h
        · have := pStep_lo h; omega
        · split at h
          · cases h
          · injection h with h; subst h; show p + n < p + (n + 1) ∧ p + (n + 1) ≤ p + (n + (g + 1)); omega
    · cases h
theorem pStep_ag {B B' : Nat → Nat} {L p : Nat} : ∀ {g n : Nat} {v : Int64}, n + g = 10 → agB B B' p (hzV (pStep B L p g n v)) → pStep B' L p g n v = pStep B L p g n v
  | 0, _, _, _, _ => rfl
  | g + 1, n, v, hn, h => by
    have hz : p + n < hzV (pStep B L p (g + 1) n v) := by
      cases e : pStep B L p (g + 1) n v with
      | ok vp => exact (pStep_lo e).1
      | error f => have := pStep_e e; subst this; show f + n < f + 10; omega
    have hb : B' (p + n) = B (p + n) := h _ (by omega) hz
    have e1 : pStep B L p (g + 1) n v = if p + n < L then (if n = 9 ∧ 1 < B (p + n) then .error p else if 128 ≤ B (p + n) then pStep B L p g (n + 1) (orB v (B (p + n)) n) else if B (p + n) = 0 ∧ 0 < n then .error p else .ok (unz (orB v (B (p + n)) n), p + (n + 1))) else .error p := rfl
    have e2 : pStep B' L p (g + 1) n v = if p + n < L then (if n = 9 ∧ 1 < B (p + n) then .error p else if 128 ≤ B (p + n) then pStep B' L p g (n + 1) (orB v (B (p + n)) n) else if B (p + n) = 0 ∧ 0 < n then .error p else .ok (unz (orB v (B (p + n)) n), p + (n + 1))) else .error p := by rw [← hb]; rfl
    rw [e1] at h
    rw [e1, e2]
    by_cases c1 : p + n < L
    · rw [if_pos c1] at h ⊢
      rw [if_pos c1]
      by_cases c2 : n = 9 ∧ 1 < B (p + n)
      · rw [if_pos c2, if_pos c2]
      · rw [if_neg c2] at h ⊢
        rw [if_neg c2]
        by_cases c3 : 128 ≤ B (p + n)
        · rw [if_pos c3] at h ⊢
          rw [if_pos c3]
          exact pStep_ag (by omega) h
        · rw [if_neg c3, if_neg c3]
    · rw [if_neg c1, if_neg c1]
theorem pLet_lo {B : Nat → Nat} {L : Nat} : ∀ {n c p : Nat}, lowV p (pLet B L n c p) ∧ (0 < n → p < hzV (pLet B L n c p))
  | 0, _, p => ⟨Nat.le_refl p, fun z => absurd z (Nat.lt_irrefl 0)⟩
  | n + 1, c, p => by
    unfold pLet
    by_cases q : p < L ∧ 97 ≤ B p ∧ B p ≤ 122
    · rw [if_pos q]
      have h := (pLet_lo (B := B) (L := L) (n := n) (c := 27 * c + (B p - 96)) (p := p + 1)).1
      have h2 := h.hz
      refine ⟨?_, fun _ => by omega⟩
      revert h
      cases pLet B L n (27 * c + (B p - 96)) (p + 1) with
      | ok vp => intro h; have : p + 1 ≤ vp.2 := h; show p ≤ vp.2; omega
      | error f => intro h; have : p + 1 ≤ f := h; show p ≤ f; omega
    · rw [if_neg q]
      exact ⟨Nat.le_refl p, fun _ => show p < p + 10 by omega⟩
theorem pLet_ag {B B' : Nat → Nat} {L : Nat} : ∀ {n c p : Nat}, agB B B' p (hzV (pLet B L n c p)) → pLet B' L n c p = pLet B L n c p
  | 0, _, _, _ => rfl
  | n + 1, c, p, h => by
    have hz := (pLet_lo (B := B) (L := L) (n := n + 1) (c := c) (p := p)).2 (by omega)
    have hb : B' p = B p := h _ (Nat.le_refl _) hz
    unfold pLet at h ⊢
    rw [hb]
    by_cases q : p < L ∧ 97 ≤ B p ∧ B p ≤ 122
    · rw [if_pos q] at h ⊢
      rw [if_pos q]
      exact pLet_ag (h.t (by omega) (Nat.le_refl _))
    · rw [if_neg q, if_neg q]
theorem pWord_lo {B : Nat → Nat} {L p : Nat} : lowV p (pWord B L p) ∧ p < hzV (pWord B L p) := by
  unfold pWord
  by_cases q : p < L ∧ 1 ≤ B p ∧ B p ≤ 7
  · rw [if_pos q]
    have h := (pLet_lo (B := B) (L := L) (n := B p) (c := 0) (p := p + 1)).1
    have h2 := h.hz
    refine ⟨?_, by omega⟩
    revert h
    cases pLet B L (B p) 0 (p + 1) with
    | ok vp => intro h; have : p + 1 ≤ vp.2 := h; show p ≤ vp.2; omega
    | error f => intro h; have : p + 1 ≤ f := h; show p ≤ f; omega
  · rw [if_neg q]
    exact ⟨Nat.le_refl p, show p < p + 10 by omega⟩
theorem pWord_ag {B B' : Nat → Nat} {L p : Nat} (h : agB B B' p (hzV (pWord B L p))) : pWord B' L p = pWord B L p := by
  have hb : B' p = B p := h _ (Nat.le_refl _) pWord_lo.2
  unfold pWord at h ⊢
  rw [hb]
  by_cases q : p < L ∧ 1 ≤ B p ∧ B p ≤ 7
  · rw [if_pos q] at h ⊢
    rw [if_pos q]
    exact pLet_ag (h.t (by omega) (Nat.le_refl _))
  · rw [if_neg q, if_neg q]
theorem pBead_lo {B : Nat → Nat} {L a p : Nat} : lowV p (pBead B L a p) ∧ p < hzV (pBead B L a p) := by
  unfold pBead
  split
  · exact ⟨show p ≤ p + 1 by omega, show p < p + 1 by omega⟩
  · exact ⟨Nat.le_refl p, show p < p + 10 by omega⟩
theorem pBead_ag {B B' : Nat → Nat} {L a p : Nat} (h : agB B B' p (hzV (pBead B L a p))) : pBead B' L a p = pBead B L a p := by
  have hb : B' p = B p := h _ (Nat.le_refl _) pBead_lo.2
  unfold pBead
  rw [hb]
theorem pLink_lo {B : Nat → Nat} {L : Nat} {K : Nat → Nat} {u k p : Nat} : lowV p (pLink B L K u k p) ∧ p < hzV (pLink B L K u k p) := by
  unfold pLink
  split
  · exact ⟨show p ≤ p + 1 by omega, show p < p + 1 by omega⟩
  · exact ⟨Nat.le_refl p, show p < p + 10 by omega⟩
theorem pLink_ag {B B' : Nat → Nat} {L : Nat} {K : Nat → Nat} {u k p : Nat} (h : agB B B' p (hzV (pLink B L K u k p))) : pLink B' L K u k p = pLink B L K u k p := by
  have hb : B' p = B p := h _ (Nat.le_refl _) pLink_lo.2
  unfold pLink
  rw [hb]
theorem pElem_lo {B : Nat → Nat} {L : Nat} {R : pR} {k b p : Nat} : lowV p (pElem B L R k b p) := by
  unfold pElem
  split
  · exact pWord_lo.1
  · split
    · exact pBead_lo.1
    · split
      · exact pLink_lo.1
      · split
        · exact Nat.le_refl p
        · exact pNum_lo
theorem pElem_ag {B B' : Nat → Nat} {L : Nat} {R : pR} {k b p : Nat} (hb : b < 12) (h : agB B B' p (hzV (pElem B L R k b p))) : pElem B' L R k b p = pElem B L R k b p := by
  unfold pElem at h ⊢
  by_cases c8 : b = 8
  · rw [if_pos c8] at h ⊢; rw [if_pos c8]; exact pWord_ag h
  · rw [if_neg c8] at h ⊢; rw [if_neg c8]
    by_cases c9 : b = 9
    · rw [if_pos c9] at h ⊢; rw [if_pos c9]; exact pBead_ag h
    · rw [if_neg c9] at h ⊢; rw [if_neg c9]
      by_cases c10 : b = 10
      · rw [if_pos c10] at h ⊢; rw [if_pos c10]; exact pLink_ag h
      · rw [if_neg c10] at h ⊢; rw [if_neg c10]
        by_cases c11 : b = 11
        · rw [if_pos c11, if_pos c11]
        · rw [if_neg c11] at h ⊢; rw [if_neg c11]; exact pNum_ag (by omega) h
theorem pFlat_lo {B : Nat → Nat} {L k t : Nat} : ∀ {n j p : Nat} {R : pR}, lowP p (pFlat B L k t n j p R)
  | 0, _, p, _ => Nat.le_refl p
  | n + 1, j, p, R => by
    unfold pFlat
    have h := pNum_lo (B := B) (L := L) (k := k) (p := p)
    split
    · rename_i e; rw [e] at h; exact h
    · rename_i vp e; rw [e] at h; exact pFlat_lo.t h
theorem pFlat_ag {B B' : Nat → Nat} {L k t : Nat} (hk : k < 8) : ∀ {n j p : Nat} {R : pR}, agB B B' p (hzP (pFlat B L k t n j p R)) → pFlat B' L k t n j p R = pFlat B L k t n j p R
  | 0, _, _, _, _ => rfl
  | n + 1, j, p, R, h => by
    unfold pFlat at h ⊢
    cases e : pNum B L k p with
    | error f =>
      rw [e] at h
      rw [pNum_ag (B' := B') hk (by rw [e]; exact h), e]
    | ok vp =>
      rw [e] at h
      have hl := pNum_lo (B := B) (L := L) (k := k) (p := p)
      rw [e] at hl
      have h2 := (pFlat_lo (B := B) (L := L) (k := k) (t := t) (n := n) (j := j + 1) (p := vp.2) (R := rSet R t j k vp.1)).hz
      rw [pNum_ag (B' := B') hk (by rw [e]; exact h.t (Nat.le_refl _) h2), e]
      exact pFlat_ag hk (h.t hl (Nat.le_refl _))
theorem pRuns_lo {B : Nat → Nat} {L k t : Nat} : ∀ {n j r : Nat} {v : Int64} {p : Nat} {R : pR}, lowP p (pRuns B L k t n j r v p R)
  | 0, _, _, _, p, _ => by unfold pRuns; exact Nat.le_refl p
  | n + 1, j, 0, v, p, R => by
    unfold pRuns
    have h := pNum_lo (B := B) (L := L) (k := k) (p := p + 1)
    split
    · split
      · rename_i e; rw [e] at h; have h : p + 1 ≤ _ := h; show p ≤ _; omega
      · rename_i vp e; rw [e] at h; have h : p + 1 ≤ vp.2 := h; exact pRuns_lo.t (by omega)
    · exact Nat.le_refl p
  | n + 1, j, r + 1, v, p, R => by
    unfold pRuns
    exact pRuns_lo
theorem pRuns_ag {B B' : Nat → Nat} {L k t : Nat} (hk : k < 8) : ∀ {n j r : Nat} {v : Int64} {p : Nat} {R : pR}, agB B B' p (hzP (pRuns B L k t n j r v p R)) → pRuns B' L k t n j r v p R = pRuns B L k t n j r v p R
  | 0, _, _, _, _, _, _ => by unfold pRuns; rfl
  | n + 1, j, 0, v, p, R, h => by
    have e1 : pRuns B L k t (n + 1) j 0 v p R = (if p < L ∧ 1 ≤ B p ∧ B p ≤ n + 1 then (match pNum B L k (p + 1) with
      | .error f => .error f
      | .ok vp => pRuns B L k t n (j + 1) (B p - 1) vp.1 vp.2 (rSet R t j k vp.1)) else .error p) := by rw [pRuns]; cases pNum B L k (p + 1) <;> rfl
    have e2 : pRuns B' L k t (n + 1) j 0 v p R = (if p < L ∧ 1 ≤ B' p ∧ B' p ≤ n + 1 then (match pNum B' L k (p + 1) with
      | .error f => .error f
      | .ok vp => pRuns B' L k t n (j + 1) (B' p - 1) vp.1 vp.2 (rSet R t j k vp.1)) else .error p) := by rw [pRuns]; cases pNum B' L k (p + 1) <;> rfl
    rw [e1] at h
    have hl := pNum_lo (B := B) (L := L) (k := k) (p := p + 1)
    have hb : B' p = B p := by
      apply h p (Nat.le_refl _)
      by_cases q : p < L ∧ 1 ≤ B p ∧ B p ≤ n + 1
      · rw [if_pos q]
        cases e : pNum B L k (p + 1) with
        | error f => rw [e] at hl; have hl : p + 1 ≤ f := hl; show p < f + 10; omega
        | ok vp =>
          rw [e] at hl
          have hl : p + 1 ≤ vp.2 := hl
          have h2 := (pRuns_lo (B := B) (L := L) (k := k) (t := t) (n := n) (j := j + 1) (r := B p - 1) (v := vp.1) (p := vp.2) (R := rSet R t j k vp.1)).hz
          show p < hzP (pRuns B L k t n (j + 1) (B p - 1) vp.1 vp.2 (rSet R t j k vp.1))
          omega
      · rw [if_neg q]; show p < p + 10; omega
    rw [e1, e2, hb]
    by_cases q : p < L ∧ 1 ≤ B p ∧ B p ≤ n + 1
    · rw [if_pos q] at h ⊢
      rw [if_pos q]
      cases e : pNum B L k (p + 1) with
      | error f =>
        rw [e] at h
        rw [pNum_ag (B' := B') hk (by rw [e]; exact h.t (by omega) (Nat.le_refl _)), e]
      | ok vp =>
        rw [e] at h hl
        have hl : p + 1 ≤ vp.2 := hl
        have h2 := (pRuns_lo (B := B) (L := L) (k := k) (t := t) (n := n) (j := j + 1) (r := B p - 1) (v := vp.1) (p := vp.2) (R := rSet R t j k vp.1)).hz
        rw [pNum_ag (B' := B') hk (by rw [e]; exact h.t (by omega) h2), e]
        exact pRuns_ag hk (h.t (by omega) (Nat.le_refl _))
    · rw [if_neg q, if_neg q]
  | n + 1, j, r + 1, v, p, R, h => by
    have e1 : ∀ B, pRuns B L k t (n + 1) j (r + 1) v p R = pRuns B L k t n (j + 1) r v p (rSet R t j k v) := fun B => by rw [pRuns]
    rw [e1] at h
    rw [e1, e1]
    exact pRuns_ag hk h
theorem pSteps_lo {B : Nat → Nat} {L k t : Nat} : ∀ {n j : Nat} {a : Int64} {p : Nat} {R : pR}, lowP p (pSteps B L k t n j a p R)
  | 0, _, _, p, _ => Nat.le_refl p
  | n + 1, j, a, p, R => by
    unfold pSteps
    split
    · rename_i e; rw [pStep_e e]; exact Nat.le_refl p
    · rename_i vp e
      split
      · exact pSteps_lo.t (by have := pStep_lo e; omega)
      · exact Nat.le_refl p
theorem pSteps_ag {B B' : Nat → Nat} {L k t : Nat} : ∀ {n j : Nat} {a : Int64} {p : Nat} {R : pR}, agB B B' p (hzP (pSteps B L k t n j a p R)) → pSteps B' L k t n j a p R = pSteps B L k t n j a p R
  | 0, _, _, _, _, _ => rfl
  | n + 1, j, a, p, R, h => by
    unfold pSteps at h ⊢
    cases e : pStep B L p 10 0 0 with
    | error f =>
      rw [e] at h
      rw [pStep_ag (B' := B') (by omega) (by rw [e]; exact h), e]
    | ok vp =>
      rw [e] at h
      have hs := pStep_lo e
      have h2 := (pSteps_lo (B := B) (L := L) (k := k) (t := t) (n := n) (j := j + 1) (a := a + vp.1) (p := vp.2) (R := rSet R t j k (a + vp.1))).hz
      by_cases c : sX0_fits (nI k) (a + vp.1) = true
      · simp only [if_pos c] at h ⊢
        rw [pStep_ag (B' := B') (by omega) (by rw [e]; exact h.t (Nat.le_refl _) h2), e]
        simp only [if_pos c]
        exact pSteps_ag (h.t (by omega) (Nat.le_refl _))
      · simp only [if_neg c] at h ⊢
        rw [pStep_ag (B' := B') (by omega) (by rw [e]; exact h.t (Nat.le_refl _) (show vp.2 ≤ p + 10 by omega)), e]
        simp only [if_neg c]
theorem pObj_lo {B : Nat → Nat} {L : Nat} {F : Nat → Nat → pR → pP} {k t : Nat} (hF : ∀ b p R, lowP p (F b p R)) : ∀ {n j p : Nat} {R : pR}, lowP p (pObj B L F k t n j p R)
  | 0, _, p, _ => Nat.le_refl p
  | n + 1, j, p, R => by
    unfold pObj
    split
    · split
      · have h := hF (B p) p R
        split
        · rename_i e; rw [e] at h; exact h
        · rename_i pr e; rw [e] at h; exact (pObj_lo hF).t h
      · have h := pElem_lo (B := B) (L := L) (R := R) (k := k) (b := B p) (p := p + 1)
        split
        · rename_i e; rw [e] at h; have h : p + 1 ≤ _ := h; show p ≤ _; omega
        · rename_i vp e; rw [e] at h; have h : p + 1 ≤ vp.2 := h; exact (pObj_lo hF).t (by omega)
    · exact Nat.le_refl p
theorem pArr_lo {B : Nat → Nat} {L : Nat} : ∀ (g b p : Nat) (R : pR), lowP p (pArr B L g b p R)
  | 0, _, p, _ => Nat.le_refl p
  | g + 1, b, p, R => by
    unfold pArr
    split
    · split
      · split
        · exact pRuns_lo.t (by omega)
        · split
          · exact pSteps_lo.t (by omega)
          · split
            · exact pFlat_lo.t (by omega)
            · exact (pObj_lo (pArr_lo g)).t (by omega)
      · exact Nat.le_succ p
    · exact Nat.le_refl p
/-- the place behind an element or array is behind its tag -/
theorem pArr_lt {B : Nat → Nat} {L : Nat} {g b p : Nat} {R : pR} : p < hzP (pArr B L g b p R) := by
  cases g with
  | zero => exact show p < p + 10 by omega
  | succ g =>
    unfold pArr
    split
    · split
      · split
        · have := (pRuns_lo (B := B) (L := L) (k := b % 16) (t := R.1) (n := B (p + 1)) (j := 0) (r := 0) (v := 0) (p := p + 1 + 1) (R := rNew R (b % 16) (B (p + 1)))).hz; omega
        · split
          · have := (pSteps_lo (B := B) (L := L) (k := b % 16) (t := R.1) (n := B (p + 1)) (j := 0) (a := 0) (p := p + 1 + 1) (R := rNew R (b % 16) (B (p + 1)))).hz; omega
          · split
            · have := (pFlat_lo (B := B) (L := L) (k := b % 16) (t := R.1) (n := B (p + 1)) (j := 0) (p := p + 1 + 1) (R := rNew R (b % 16) (B (p + 1)))).hz; omega
            · have := (pObj_lo (B := B) (L := L) (k := b % 16) (t := R.1) (n := B (p + 1)) (j := 0) (p := p + 1 + 1) (R := rNew R (b % 16) (B (p + 1))) (pArr_lo (B := B) (L := L) g)).hz; omega
      · exact show p < p + 1 + 10 by omega
    · exact show p < p + 10 by omega
theorem pObj_ag {B B' : Nat → Nat} {L : Nat} {F F' : Nat → Nat → pR → pP} {k t : Nat} (hk8 : 8 ≤ k) (hk14 : k < 14) (hB : ∀ i, i < L → B i < 256) (hlo : ∀ b p R, lowP p (F b p R)) (hlt : ∀ b p R, p < hzP (F b p R)) (hF : ∀ b p R, b < 256 → sX1_isArrayTag (nI b) = true → agB B B' p (hzP (F b p R)) → F' b p R = F b p R) : ∀ {n j p : Nat} {R : pR}, agB B B' p (hzP (pObj B L F k t n j p R)) → pObj B' L F' k t n j p R = pObj B L F k t n j p R
  | 0, _, _, _, _ => rfl
  | n + 1, j, p, R, h => by
    have hb : B' p = B p := by
      apply h p (Nat.le_refl _)
      unfold pObj
      split
      · split
        · have h1 := hlt (B p) p R
          split
          · rename_i e; rw [e] at h1; exact h1
          · rename_i pr e
            rw [e] at h1
            have h1 : p < pr.1 := h1
            have := (pObj_lo (B := B) (L := L) (k := k) (t := t) (n := n) (j := j + 1) (p := pr.1) (R := rSet pr.2 t j 10 (lN R.1)) hlo).hz
            omega
        · have h1 := pElem_lo (B := B) (L := L) (R := R) (k := k) (b := B p) (p := p + 1)
          split
          · rename_i f e; rw [e] at h1; have h1 : p + 1 ≤ f := h1; show p < f + 10; omega
          · rename_i vp e
            rw [e] at h1
            have h1 : p + 1 ≤ vp.2 := h1
            have := (pObj_lo (B := B) (L := L) (k := k) (t := t) (n := n) (j := j + 1) (p := vp.2) (R := rSet R t j (B p) vp.1) hlo).hz
            omega
      · exact show p < p + 10 by omega
    unfold pObj at h ⊢
    rw [hb]
    by_cases c : p < L ∧ sX1_mayStand (nI k) (nI (B p)) = true
    · rw [if_pos c] at h ⊢
      rw [if_pos c]
      by_cases c2 : sX1_isArrayTag (nI (B p)) = true
      · rw [if_pos c2] at h ⊢
        rw [if_pos c2]
        cases e : F (B p) p R with
        | error f =>
          rw [e] at h
          rw [hF (B p) p R (hB p c.1) c2 (by rw [e]; exact h), e]
        | ok pr =>
          rw [e] at h
          have h1 := hlo (B p) p R
          rw [e] at h1
          have h1 : p ≤ pr.1 := h1
          have h2 := (pObj_lo (B := B) (L := L) (k := k) (t := t) (n := n) (j := j + 1) (p := pr.1) (R := rSet pr.2 t j 10 (lN R.1)) hlo).hz
          rw [hF (B p) p R (hB p c.1) c2 (by rw [e]; exact h.t (Nat.le_refl _) h2), e]
          exact pObj_ag hk8 hk14 hB hlo hlt hF (h.t h1 (Nat.le_refl _))
      · rw [if_neg c2] at h ⊢
        rw [if_neg c2]
        have hb12 : B p < 12 := el_ok k hk14 hk8 (B p) (hB p c.1) c.2 (by
          cases z : sX1_isArrayTag (nI (B p)) with
          | false => rfl
          | true => exact absurd z c2)
        cases e : pElem B L R k (B p) (p + 1) with
        | error f =>
          rw [e] at h
          rw [pElem_ag (B' := B') hb12 (by rw [e]; exact h.t (by omega) (Nat.le_refl _)), e]
        | ok vp =>
          rw [e] at h
          have h1 := pElem_lo (B := B) (L := L) (R := R) (k := k) (b := B p) (p := p + 1)
          rw [e] at h1
          have h1 : p + 1 ≤ vp.2 := h1
          have h2 := (pObj_lo (B := B) (L := L) (k := k) (t := t) (n := n) (j := j + 1) (p := vp.2) (R := rSet R t j (B p) vp.1) hlo).hz
          rw [pElem_ag (B' := B') hb12 (by rw [e]; exact h.t (by omega) h2), e]
          exact pObj_ag hk8 hk14 hB hlo hlt hF (h.t (by omega) (Nat.le_refl _))
    · rw [if_neg c, if_neg c]
theorem pArr_ag {B B' : Nat → Nat} {L : Nat} (hB : ∀ i, i < L → B i < 256) : ∀ (g b p : Nat) (R : pR), b < 256 → sX1_isArrayTag (nI b) = true → agB B B' p (hzP (pArr B L g b p R)) → pArr B' L g b p R = pArr B L g b p R
  | 0, _, _, _, _, _, _ => rfl
  | g + 1, b, p, R, hb, htg, h => by
    obtain ⟨t1, t2, t3, t4⟩ := tg_ok b hb htg
    by_cases c1 : R.1 < 12
    · have hb1 : B' (p + 1) = B (p + 1) := by
        apply h (p + 1) (by omega)
        unfold pArr
        rw [if_pos c1]
        split
        · split
          · have := (pRuns_lo (B := B) (L := L) (k := b % 16) (t := R.1) (n := B (p + 1)) (j := 0) (r := 0) (v := 0) (p := p + 1 + 1) (R := rNew R (b % 16) (B (p + 1)))).hz; omega
          · split
            · have := (pSteps_lo (B := B) (L := L) (k := b % 16) (t := R.1) (n := B (p + 1)) (j := 0) (a := 0) (p := p + 1 + 1) (R := rNew R (b % 16) (B (p + 1)))).hz; omega
            · split
              · have := (pFlat_lo (B := B) (L := L) (k := b % 16) (t := R.1) (n := B (p + 1)) (j := 0) (p := p + 1 + 1) (R := rNew R (b % 16) (B (p + 1)))).hz; omega
              · have := (pObj_lo (B := B) (L := L) (k := b % 16) (t := R.1) (n := B (p + 1)) (j := 0) (p := p + 1 + 1) (R := rNew R (b % 16) (B (p + 1))) (pArr_lo (B := B) (L := L) g)).hz; omega
        · exact show p + 1 < p + 1 + 10 by omega
      unfold pArr at h ⊢
      rw [hb1]
      rw [if_pos c1] at h ⊢
      rw [if_pos c1]
      by_cases c2 : p + 1 < L ∧ B (p + 1) ≤ 12
      · rw [if_pos c2] at h ⊢
        rw [if_pos c2]
        by_cases d2 : b / 16 = 2
        · rw [if_pos d2] at h ⊢; rw [if_pos d2]
          exact pRuns_ag (t3 d2) (h.t (by omega) (Nat.le_refl _))
        · rw [if_neg d2] at h ⊢; rw [if_neg d2]
          by_cases d3 : b / 16 = 3
          · rw [if_pos d3] at h ⊢; rw [if_pos d3]
            exact pSteps_ag (h.t (by omega) (Nat.le_refl _))
          · rw [if_neg d3] at h ⊢; rw [if_neg d3]
            by_cases d8 : b % 16 < 8
            · rw [if_pos d8] at h ⊢; rw [if_pos d8]
              exact pFlat_ag d8 (h.t (by omega) (Nat.le_refl _))
            · rw [if_neg d8] at h ⊢; rw [if_neg d8]
              exact pObj_ag (by omega) t2 hB (pArr_lo g) (fun _ _ _ => pArr_lt) (fun b p R h1 h2 h3 => pArr_ag hB g b p R h1 h2 h3) (h.t (by omega) (Nat.le_refl _))
      · rw [if_neg c2, if_neg c2]
    · unfold pArr
      rw [if_neg c1, if_neg c1]
theorem pItem_lt {B : Nat → Nat} {L p : Nat} : p < hzP (pItem B L p) := by
  unfold pItem
  split
  · split
    · exact pArr_lt
    · split
      · have h := (pWord_lo (B := B) (L := L) (p := p + 1)).2
        split
        · rename_i f e; rw [e] at h; have h : p + 1 < f + 10 := h; show p < f + 10; omega
        · rename_i vp e; rw [e] at h; have h : p + 1 < vp.2 := h; show p < vp.2; omega
      · split
        · have h := (pBead_lo (B := B) (L := L) (a := 0) (p := p + 1)).2
          split
          · rename_i f e; rw [e] at h; have h : p + 1 < f + 10 := h; show p < f + 10; omega
          · rename_i vp e; rw [e] at h; have h : p + 1 < vp.2 := h; show p < vp.2; omega
        · exact show p < p + 10 by omega
  · exact show p < p + 10 by omega
/-- a reading looks at no byte ahead of it, behind its end, or ten behind its fault -/
theorem pItem_ag {B B' : Nat → Nat} {L p : Nat} (hB : ∀ i, i < L → B i < 256) (h : agB B B' p (hzP (pItem B L p))) : pItem B' L p = pItem B L p := by
  have hb : B' p = B p := h p (Nat.le_refl _) pItem_lt
  unfold pItem at h ⊢
  rw [hb]
  by_cases c1 : p < L
  · rw [if_pos c1] at h ⊢; rw [if_pos c1]
    by_cases c2 : sX1_isArrayTag (nI (B p)) = true
    · rw [if_pos c2] at h ⊢; rw [if_pos c2]
      exact pArr_ag hB 12 _ _ _ (hB p c1) c2 h
    · rw [if_neg c2] at h ⊢; rw [if_neg c2]
      by_cases c8 : B p = 8
      · rw [if_pos c8] at h ⊢; rw [if_pos c8]
        have e2 : pWord B' L (p + 1) = pWord B L (p + 1) := by
          apply pWord_ag
          cases e : pWord B L (p + 1) with
          | error f => rw [e] at h; exact h.t (by omega) (Nat.le_refl _)
          | ok vp => rw [e] at h; exact h.t (by omega) (Nat.le_refl _)
        rw [e2]
      · rw [if_neg c8] at h ⊢; rw [if_neg c8]
        by_cases c9 : B p = 9
        · rw [if_pos c9] at h ⊢; rw [if_pos c9]
          have e2 : pBead B' L 0 (p + 1) = pBead B L 0 (p + 1) := by
            apply pBead_ag
            cases e : pBead B L 0 (p + 1) with
            | error f => rw [e] at h; exact h.t (by omega) (Nat.le_refl _)
            | ok vp => rw [e] at h; exact h.t (by omega) (Nat.le_refl _)
          rw [e2]
        · rw [if_neg c9, if_neg c9]
  · rw [if_neg c1, if_neg c1]
