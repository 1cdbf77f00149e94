-- WHAT IS READ IS AS IT MUST BE
def rKap (R : pR) (u : Nat) : Nat := if u < R.1 then rK R u else 16
def pOk (R : pR) : Prop := R.1 ≤ 12 ∧ ∀ n, n < R.1 → rK R n < 14 ∧ rZ R n ≤ 12 ∧ ∀ j, j < rZ R n → okC (rKap R) (rK R n) (rW R n j) (rV R n j)
theorem okC_in {R R' : pR} (h : rIn R R') (h12 : R'.1 ≤ 12) {k w : Nat} {v : Int64} (ho : okC (rKap R) k w v) : okC (rKap R') k w v := by
  obtain ⟨h1, h2, h3, h4, h5, h6, h7, h8, h9, h10, h11, h12'⟩ := ho
  refine ⟨h1, h2, h3, h4, h5, h6, h7, h8, h9, h10, fun q => ?_, h12'⟩
  obtain ⟨u, u1, u2, u3, u4⟩ := h11 q
  have hu : u < R.1 := by
    by_cases c : u < R.1
    · exact c
    · rw [show rKap R u = 16 from if_neg c] at u3; omega
  have e : rKap R' u = rKap R u := by
    unfold rKap
    rw [if_pos hu, if_pos (Nat.lt_of_lt_of_le hu h.1)]
    exact (h.2 u hu).1
  exact ⟨u, u1, u2, by rw [e]; exact u3, fun z => by rw [e]; exact u4 z⟩
theorem pOk.set {R : pR} (h : pOk R) {t j w : Nat} {v : Int64} (ho : okC (rKap R) (rK R t) w v) : pOk (rSet R t j w v) := by
  refine ⟨h.1, fun n hn => ?_⟩
  obtain ⟨a1, a2, a3⟩ := h.2 n hn
  refine ⟨a1, a2, fun i hi => ?_⟩
  show okC (rKap R) (rK R n) (xup (rW R) t j w n i) (xup (rV R) t j v n i)
  unfold xup
  by_cases c : n = t
  · rw [if_pos c, if_pos c]
    by_cases c2 : i = j
    · rw [if_pos c2, if_pos c2, c]; exact ho
    · rw [if_neg c2, if_neg c2]; exact a3 i hi
  · rw [if_neg c, if_neg c]; exact a3 i hi
theorem pOk.new {R : pR} (h : pOk R) {k z : Nat} (hu : R.1 < 12) (hk : k < 14) (hz : z ≤ 12) : pOk (rNew R k z) := by
  refine ⟨hu, fun n hn => ?_⟩
  have hn' : n < R.1 + 1 := hn
  by_cases c : n = R.1
  · have e1 : rK (rNew R k z) n = k := by show xnw R.2.1 R.1 k n = k; unfold xnw; rw [if_pos c]
    have e2 : rZ (rNew R k z) n = z := by show xnw R.2.2.1 R.1 z n = z; unfold xnw; rw [if_pos c]
    have e3 : rW (rNew R k z) n = fun _ => if k < 8 then k else 11 := by show xnw R.2.2.2.1 R.1 _ n = _; unfold xnw; rw [if_pos c]
    have e4 : rV (rNew R k z) n = fun _ => 0 := by show xnw R.2.2.2.2 R.1 _ n = _; unfold xnw; rw [if_pos c]
    rw [e1, e2, e3, e4]
    exact ⟨hk, hz, fun j _ => okC_blank _ hk⟩
  · have e1 : rK (rNew R k z) n = rK R n := by show xnw R.2.1 R.1 k n = _; unfold xnw; rw [if_neg c]; rfl
    have e2 : rZ (rNew R k z) n = rZ R n := by show xnw R.2.2.1 R.1 z n = _; unfold xnw; rw [if_neg c]; rfl
    have e3 : rW (rNew R k z) n = rW R n := by show xnw R.2.2.2.1 R.1 _ n = _; unfold xnw; rw [if_neg c]; rfl
    have e4 : rV (rNew R k z) n = rV R n := by show xnw R.2.2.2.2 R.1 _ n = _; unfold xnw; rw [if_neg c]; rfl
    rw [e1, e2, e3, e4]
    obtain ⟨a1, a2, a3⟩ := h.2 n (by omega)
    exact ⟨a1, a2, fun j hj => okC_in (rIn.n R k z) hu (a3 j hj)⟩
-- numbers
theorem numV_ok {B : Nat → Nat} {k p : Nat} {v : Int64} (hk : k < 8) (hb : 6 ≤ k → B p < 256) (h : numV B k p = some v) : okN k v := by
  unfold numV at h
  by_cases c : k < 6
  · rw [if_pos c] at h
    split at h
    · rename_i hf
      injection h with h
      subst h
      rw [fits_eq hk] at hf
      exact ⟨hf, fun z => absurd z (by omega)⟩
    · cases h
  · rw [if_neg c] at h
    have h67 : k = 6 ∨ k = 7 := by omega
    split at h
    · rename_i hf
      injection h with h
      subst h
      refine ⟨num_67 (by omega) _, fun _ => ?_⟩
      have he := hb (by omega)
      generalize B p = e at hf he ⊢
      rcases m_cases (sgB B (p + 1) (wdK k)) with q | q | ⟨s, n, h0, hn, q⟩
      · rw [q, sc_0]; exact okF_0 k
      · rw [q, isS_m] at hf; cases hf
      · rw [q, isS_eq h67 s h0 hn he] at hf
        rw [q]
        exact sc_okF h67 s hf
    · cases h
theorem wid2_p {k : Nat} (hk : k < 8) : 0 < wid2 k := by
  have := wd_p k hk
  unfold wid2
  split <;> omega
theorem pNum_ok {B : Nat → Nat} {L k p : Nat} {vp : Int64 × Nat} (hk : k < 8) (hB : ∀ i, i < L → B i < 256) (h : pNum B L k p = .ok vp) : okN k vp.1 := by
  unfold pNum at h
  split at h
  · rename_i c
    split at h
    · rename_i v e
      injection h with h
      subst h
      exact numV_ok hk (fun _ => hB p (by have := wid2_p hk; omega)) e
    · cases h
  · cases h
theorem okC_n {κ : Nat → Nat} {k w : Nat} {v : Int64} (hw : w < 8) (hk : k = w ∨ k = 12 ∨ (k = 8 ∧ w = 4)) (h : okN w v) : okC κ k w v := by
  refine ⟨by omega, by omega, by omega, by omega, by omega, by omega, by omega, fun _ => h, by omega, by omega, by omega, by omega⟩
theorem pFlat_ok {B : Nat → Nat} {L k t : Nat} (hk : k < 8) (hB : ∀ i, i < L → B i < 256) : ∀ {n j p : Nat} {R : pR} {pr : Nat × pR}, pFlat B L k t n j p R = .ok pr → pOk R → rK R t = k → pOk pr.2
  | 0, _, _, R, _, h, ho, _ => by injection h with h; subst h; exact ho
  | n + 1, j, p, R, pr, h, ho, ht => by
    unfold pFlat at h
    split at h
    · cases h
    · rename_i vp e
      exact pFlat_ok (R := rSet R t j k vp.1) hk hB h (ho.set (okC_n hk (Or.inl ht) (pNum_ok hk hB e))) ht
theorem pRuns_ok {B : Nat → Nat} {L k t : Nat} (hk : k < 8) (hB : ∀ i, i < L → B i < 256) : ∀ {n j r : Nat} {v : Int64} {p : Nat} {R : pR} {pr : Nat × pR}, pRuns B L k t n j r v p R = .ok pr → pOk R → rK R t = k → (0 < r → okN k v) → pOk pr.2
  | 0, _, _, _, _, R, _, h, ho, _, _ => by unfold pRuns at h; injection h with h; subst h; exact ho
  | n + 1, j, 0, v, p, R, pr, h, ho, ht, _ => by
    unfold pRuns at h
    split at h
    · split at h
      · cases h
      · rename_i vp e
        have q := pNum_ok hk hB e
        exact pRuns_ok (R := rSet R t j k vp.1) hk hB h (ho.set (okC_n hk (Or.inl ht) q)) ht (fun _ => q)
    · cases h
  | n + 1, j, r + 1, v, p, R, pr, h, ho, ht, hv => by
    unfold pRuns at h
    have q := hv (by omega)
    exact pRuns_ok (R := rSet R t j k v) hk hB h (ho.set (okC_n hk (Or.inl ht) q)) ht (fun _ => q)
theorem pSteps_ok {B : Nat → Nat} {L k t : Nat} (hk : k < 6) : ∀ {n j : Nat} {a : Int64} {p : Nat} {R : pR} {pr : Nat × pR}, pSteps B L k t n j a p R = .ok pr → pOk R → rK R t = k → pOk pr.2
  | 0, _, _, _, R, _, h, ho, _ => by injection h with h; subst h; exact ho
  | n + 1, j, a, p, R, pr, h, ho, ht => by
    unfold pSteps at h
    split at h
    · cases h
    · rename_i vp e
      split at h
      · rename_i hf
        rw [fits_eq (show k < 8 by omega)] at hf
        exact pSteps_ok (R := rSet R t j k (a + vp.1)) hk h (ho.set (okC_n (by omega) (Or.inl ht) ⟨hf, fun z => absurd z (by omega)⟩)) ht
      · cases h
-- words
theorem wdg_m : ∀ (k v : Nat), wdg k v = true → wdg (k + 1) v = true
  | 0, v, h => by
    have : v = 0 := of_decide_eq_true h
    subst this
    exact wdg_0 1
  | k + 1, v, h => by
    by_cases c : v = 0
    · subst c; exact wdg_0 _
    · by_cases c2 : v % 27 = 0
      · rw [wdg_z (by omega) c2] at h; cases h
      · rw [wdg_s (by omega) c2] at h ⊢
        exact wdg_m k _ h
theorem wdg_le {k v : Nat} (h : wdg k v = true) : ∀ m, wdg (k + m) v = true
  | 0 => h
  | m + 1 => wdg_m _ _ (wdg_le h m)
theorem pLet_w {B : Nat → Nat} {L : Nat} : ∀ {n c p m : Nat} {vp : Int64 × Nat}, pLet B L n c p = .ok vp → wdg m c = true → c < 27 ^ m → 0 < n ∨ 0 < c → ∃ c', vp.1 = lN c' ∧ wdg (m + n) c' = true ∧ c' < 27 ^ (m + n) ∧ 0 < c'
  | 0, c, p, m, vp, h, h1, h2, h3 => by
    injection h with h
    subst h
    exact ⟨c, rfl, h1, h2, by omega⟩
  | n + 1, c, p, m, vp, h, h1, h2, h3 => by
    unfold pLet at h
    split at h
    · rename_i q
      have e1 : (27 * c + (B p - 96)) % 27 = B p - 96 := by omega
      have e2 : (27 * c + (B p - 96)) / 27 = c := by omega
      have h4 : wdg (m + 1) (27 * c + (B p - 96)) = true := by
        rw [wdg_s (by omega) (by omega), e2]; exact h1
      have h5 : 27 * c + (B p - 96) < 27 ^ (m + 1) := by
        rw [Nat.pow_succ, Nat.mul_comm]
        omega
      obtain ⟨c', g1, g2, g3, g4⟩ := pLet_w h h4 h5 (Or.inr (by omega))
      rw [show m + 1 + n = m + (n + 1) by omega] at g2 g3
      exact ⟨c', g1, g2, g3, g4⟩
    · cases h
theorem wrd_N {c : Nat} (h0 : 0 < c) (h : c < 27 ^ 7) (hw : wdg 7 c = true) : wrd (lN c) = true := by
  have hc : c < 2 ^ 63 := Nat.lt_trans h (by decide)
  unfold wrd
  rw [pf_lI hc, Int.toNat_natCast, hw, Bool.and_true]
  apply decide_eq_true
  apply Int64.lt_iff_toInt_lt.mpr
  rw [pf_lI hc]
  show (0 : Int) < _
  omega
theorem pWord_w {B : Nat → Nat} {L p : Nat} {vp : Int64 × Nat} (h : pWord B L p = .ok vp) : wrd vp.1 = true := by
  unfold pWord at h
  split at h
  · rename_i q
    obtain ⟨c, g1, g2, g3, g4⟩ := pLet_w (m := 0) h (wdg_0 0) (by decide) (Or.inl (by omega))
    rw [Nat.zero_add] at g2 g3
    have g5 := wdg_le g2 (7 - B p)
    rw [show B p + (7 - B p) = 7 by omega] at g5
    rw [g1]
    exact wrd_N g4 (Nat.lt_of_lt_of_le g3 (Nat.pow_le_pow_right (by decide) q.2.2)) g5
  · cases h
theorem pBead_b {B : Nat → Nat} {L a p : Nat} {vp : Int64 × Nat} (h : pBead B L a p = .ok vp) : ∃ b, b < 6 ∧ a ≤ b ∧ vp.1 = lN b := by
  unfold pBead at h
  split at h
  · rename_i q
    injection h with h
    subst h
    exact ⟨B p, q.2.2, q.2.1, rfl⟩
  · cases h
theorem b3_le : ∀ b, b < 6 → 3 ≤ b → (3 : Int64) ≤ lN b := by decide
def elc (k b : Nat) : Bool := !(sX1_mayStand (nI k) (nI b)) || (if sX1_isArrayTag (nI b) = true then decide ((k = 12 ∨ k = 13) ∧ (k = 13 → b % 16 = 4)) else decide (b < 12 ∧ (k = 8 → b = 4 ∨ b = 11) ∧ (k = 9 → b = 8 ∨ b = 11) ∧ (k = 10 → b = 9 ∨ b = 11) ∧ (k = 11 → b = 9 ∨ b = 11) ∧ (k = 13 → b = 10 ∨ b = 11)))
theorem elc_t : ∀ k, k < 14 → 8 ≤ k → ∀ b, b < 256 → elc k b = true := by decide +kernel
theorem el_w {k b : Nat} (h1 : k < 14) (h2 : 8 ≤ k) (h3 : b < 256) (h4 : sX1_mayStand (nI k) (nI b) = true) : (sX1_isArrayTag (nI b) = true → (k = 12 ∨ k = 13) ∧ (k = 13 → b % 16 = 4)) ∧ (sX1_isArrayTag (nI b) = false → b < 12 ∧ (k = 8 → b = 4 ∨ b = 11) ∧ (k = 9 → b = 8 ∨ b = 11) ∧ (k = 10 → b = 9 ∨ b = 11) ∧ (k = 11 → b = 9 ∨ b = 11) ∧ (k = 13 → b = 10 ∨ b = 11)) := by
  have h := elc_t k h1 h2 b h3
  unfold elc at h
  rw [h4, Bool.not_true, Bool.false_or] at h
  refine ⟨fun q => ?_, fun q => ?_⟩
  · rw [if_pos q] at h; exact of_decide_eq_true h
  · rw [if_neg (by rw [q]; decide)] at h; exact of_decide_eq_true h
theorem pElem_ok {B : Nat → Nat} {L : Nat} {R : pR} {k b p : Nat} {vp : Int64 × Nat} (hR : pOk R) (hk8 : 8 ≤ k) (hb12 : b < 12) (h1 : k = 8 → b = 4 ∨ b = 11) (h2 : k = 9 → b = 8 ∨ b = 11) (h3 : k = 10 → b = 9 ∨ b = 11) (h4 : k = 11 → b = 9 ∨ b = 11) (h5 : k = 13 → b = 10 ∨ b = 11) (hk14 : k < 14) (hB : ∀ i, i < L → B i < 256) (h : pElem B L R k b p = .ok vp) : okC (rKap R) k b vp.1 := by
  unfold pElem at h
  by_cases c8 : b = 8
  · rw [if_pos c8] at h
    have hw := pWord_w h
    exact ⟨by omega, by omega, by omega, by omega, by omega, by omega, by omega, by omega, fun _ => hw, by omega, by omega, by omega⟩
  · rw [if_neg c8] at h
    by_cases c9 : b = 9
    · rw [if_pos c9] at h
      obtain ⟨x, x1, x2, x3⟩ := pBead_b h
      refine ⟨by omega, by omega, by omega, by omega, by omega, fun q => Or.inl ⟨c9, ?_⟩, by omega, by omega, by omega, fun _ => ⟨x, x1, x3⟩, by omega, by omega⟩
      rw [if_pos q] at x2
      rw [x3]
      exact b3_le x x1 x2
    · rw [if_neg c9] at h
      by_cases c10 : b = 10
      · rw [if_pos c10] at h
        unfold pLink at h
        split at h
        · rename_i q
          injection h with h
          subst h
          have hR1 := hR.1
          have e : rKap R (B p) = rK R (B p) := if_pos q.2.1
          refine ⟨by omega, by omega, by omega, by omega, by omega, by omega, by omega, by omega, by omega, by omega, fun _ => ⟨B p, by omega, rfl, ?_, fun z => ?_⟩, by omega⟩
          · rw [e]; exact (hR.2 _ q.2.1).1
          · rw [e]; exact q.2.2 z
        · cases h
      · rw [if_neg c10] at h
        by_cases c11 : b = 11
        · rw [if_pos c11] at h
          injection h with h
          subst h
          exact ⟨by omega, by omega, by omega, by omega, by omega, by omega, by omega, by omega, by omega, by omega, by omega, fun _ => rfl⟩
        · rw [if_neg c11] at h
          exact okC_n (by omega) (by omega) (pNum_ok (by omega) hB h)
def FOk (L : Nat) (F : Nat → Nat → pR → pP) : Prop := ∀ b p R pr, F b p R = .ok pr → p < L → b < 256 → sX1_isArrayTag (nI b) = true → pOk R → pOk pr.2 ∧ R.1 < pr.2.1 ∧ rK pr.2 R.1 = b % 16
theorem pObj_ok {B : Nat → Nat} {L : Nat} {F : Nat → Nat → pR → pP} {k t : Nat} (hk8 : 8 ≤ k) (hk14 : k < 14) (hB : ∀ i, i < L → B i < 256) (hI : ∀ b p R pr, F b p R = .ok pr → p < L → rIn R pr.2 ∧ pr.1 ≤ L) (hF : FOk L F) : ∀ {n j p : Nat} {R : pR} {pr : Nat × pR}, pObj B L F k t n j p R = .ok pr → pOk R → t < R.1 → rK R t = k → pOk pr.2
  | 0, _, _, R, _, h, ho, _, _ => by injection h with h; subst h; exact ho
  | n + 1, j, p, R, pr, h, ho, htl, ht => by
    unfold pObj at h
    split at h
    · rename_i c
      have hb := hB p c.1
      have hw := el_w hk14 hk8 hb c.2
      split at h
      · rename_i ht2
        split at h
        · cases h
        · rename_i qr e
          obtain ⟨g1, g2, g3⟩ := hF _ _ _ _ e c.1 hb ht2 ho
          have gi := (hI _ _ _ _ e c.1).1
          obtain ⟨w1, w2⟩ := hw.1 ht2
          have g12 := g1.1
          refine pObj_ok (R := rSet qr.2 t j 10 (lN R.1)) hk8 hk14 hB hI hF h (g1.set ?_) (Nat.lt_of_lt_of_le htl gi.1) ((gi.2 t htl).1.trans ht)
          rw [(gi.2 t htl).1, ht]
          have e2 : rKap qr.2 R.1 = (B p) % 16 := (if_pos g2).trans g3
          have tg := tg_ok (B p) hb ht2
          refine ⟨by omega, by omega, by omega, by omega, by omega, by omega, by omega, by omega, by omega, by omega, fun _ => ⟨R.1, by omega, rfl, ?_, fun z => ?_⟩, by omega⟩
          · rw [e2]; exact tg.2.1
          · rw [e2]; exact w2 z
      · rename_i ht2
        have ht3 : sX1_isArrayTag (nI (B p)) = false := by
          cases z : sX1_isArrayTag (nI (B p)) with
          | false => rfl
          | true => exact absurd z ht2
        obtain ⟨w1, w2, w3, w4, w5, w6⟩ := hw.2 ht3
        split at h
        · cases h
        · rename_i vp e
          refine pObj_ok (R := rSet R t j (B p) vp.1) hk8 hk14 hB hI hF h (ho.set ?_) htl ht
          rw [ht]
          exact pElem_ok ho hk8 w1 w2 w3 w4 w5 w6 hk14 hB e
    · cases h
theorem rNew_K (R : pR) (k z : Nat) : rK (rNew R k z) R.1 = k := by
  show xnw R.2.1 R.1 k R.1 = k
  unfold xnw
  rw [if_pos rfl]
theorem pArr_ok {B : Nat → Nat} {L : Nat} (hB : ∀ i, i < L → B i < 256) : ∀ g, FOk L (pArr B L g)
  | 0 => fun _ _ _ _ h _ _ _ _ => by cases h
  | g + 1 => by
    intro b p R pr h hp hb htg ho
    unfold pArr at h
    obtain ⟨t1, t2, t3, t4⟩ := tg_ok b hb htg
    split at h
    · rename_i hu
      split at h
      · rename_i c
        have hn := ho.new (k := b % 16) (z := B (p + 1)) hu t2 c.2
        have hK := rNew_K R (b % 16) (B (p + 1))
        have fin : rIn (rNew R (b % 16) (B (p + 1))) pr.2 → R.1 < pr.2.1 ∧ rK pr.2 R.1 = b % 16 := fun z => ⟨z.1, ((z.2 R.1 (Nat.lt_succ_self _)).1).trans hK⟩
        split at h
        · rename_i c2
          exact ⟨pRuns_ok (t3 c2) hB h hn hK (fun z => absurd z (Nat.lt_irrefl 0)), fin (pRuns_in h (by omega)).1⟩
        · split at h
          · rename_i c3
            exact ⟨pSteps_ok (t4 c3).1 h hn hK, fin (pSteps_in h (by omega)).1⟩
          · split at h
            · rename_i c8
              exact ⟨pFlat_ok c8 hB h hn hK, fin (pFlat_in h (by omega)).1⟩
            · exact ⟨pObj_ok (by omega) t2 hB (pArr_in g) (pArr_ok hB g) h hn (Nat.lt_succ_self _) hK, fin (pObj_in (pArr_in g) h (by omega)).1⟩
      · cases h
    · cases h
/-- an item that was read: an array and what hangs on it, or a bead or word -/
def iOk (R : pR) : Prop := (pOk R ∧ 0 < R.1 ∧ rK R 0 < 14) ∨ (R.1 = 1 ∧ rZ R 0 = 0 ∧ 14 ≤ rK R 0 ∧ rK R 0 < 16 ∧ okT (rK R 0) (rV R 0 0))
theorem pItem_ok {B : Nat → Nat} {L p : Nat} (hB : ∀ i, i < L → B i < 256) {pr : Nat × pR} (h : pItem B L p = .ok pr) : iOk pr.2 ∧ pr.1 ≤ L := by
  unfold pItem at h
  split at h
  · rename_i hp
    split at h
    · rename_i htg
      obtain ⟨g1, g2, g3⟩ := pArr_ok hB 12 _ _ _ _ h hp (hB p hp) htg ⟨Nat.zero_le _, fun n hn => absurd hn (Nat.not_lt_zero _)⟩
      have g4 := pArr_in 12 _ _ _ _ h hp
      exact ⟨Or.inl ⟨g1, g2, (g1.2 0 g2).1⟩, g4.2⟩
    · split at h
      · split at h
        · cases h
        · rename_i vp e
          injection h with h
          subst h
          exact ⟨Or.inr ⟨rfl, rfl, (show 14 ≤ 15 by decide), (show 15 < 16 by decide), fun z => absurd (show (15 : Nat) = 14 from z) (by decide), fun _ => pWord_w e⟩, pWord_le e⟩
      · split at h
        · split at h
          · cases h
          · rename_i vp e
            injection h with h
            subst h
            obtain ⟨b, b1, -, b3⟩ := pBead_b e
            refine ⟨Or.inr ⟨rfl, rfl, (show 14 ≤ 14 by decide), (show 14 < 16 by decide), fun _ => ⟨b, b1, b3⟩, fun z => absurd (show (14 : Nat) = 15 from z) (by decide)⟩, ?_⟩
            unfold pBead at e
            split at e
            · injection e with e
              subst e
              show p + 1 + 1 ≤ L
              omega
            · cases e
        · cases h
  · cases h
