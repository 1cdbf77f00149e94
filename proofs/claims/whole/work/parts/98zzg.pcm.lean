-- THE PARSER AND OLDER ROWS
def mapP (f : pR → pR) (q : pP) : pP := match q with
  | .ok pr => .ok (pr.1, f pr.2)
  | .error e => .error e
theorem xup_cm {α : Type} (f : Nat → Nat → α) {a b : Nat} (h : a ≠ b) (k j : Nat) (v w : α) : xup (xup f a k v) b j w = xup (xup f b j w) a k v := by
  funext x y
  unfold xup
  by_cases c1 : x = a
  · by_cases c2 : x = b
    · exact absurd (c1.symm.trans c2) h
    · rw [if_neg c2, if_pos c1, if_pos c1, if_neg c2]
  · rw [if_neg c1, if_neg c1]
theorem rSet_cm (R : pR) {t s : Nat} (h : t ≠ s) (j i w x : Nat) (v y : Int64) : rSet (rSet R t j w v) s i x y = rSet (rSet R s i x y) t j w v := by
  show (R.1, R.2.1, R.2.2.1, xup (xup R.2.2.2.1 t j w) s i x, xup (xup R.2.2.2.2 t j v) s i y) = (R.1, R.2.1, R.2.2.1, xup (xup R.2.2.2.1 s i x) t j w, xup (xup R.2.2.2.2 s i y) t j v)
  rw [xup_cm _ h, xup_cm _ h]
theorem xnw_cm {α : Type} (f : Nat → Nat → α) {a b : Nat} (h : a ≠ b) (k : Nat) (v : α) (g : Nat → α) : xnw (xup f a k v) b g = xup (xnw f b g) a k v := by
  funext x
  funext y
  unfold xup xnw
  by_cases c : x = b
  · rw [if_pos c, if_neg (fun z => h (z.symm.trans c)), if_pos c]
  · rw [if_neg c, if_neg c]
theorem rNew_cm (R : pR) {s : Nat} (h : s < R.1) (i x : Nat) (y : Int64) (k z : Nat) : rNew (rSet R s i x y) k z = rSet (rNew R k z) s i x y := by
  show (R.1 + 1, xnw R.2.1 R.1 k, xnw R.2.2.1 R.1 z, xnw (xup R.2.2.2.1 s i x) R.1 (fun _ => if k < 8 then k else 11), xnw (xup R.2.2.2.2 s i y) R.1 (fun _ => 0)) = _
  rw [xnw_cm _ (by omega), xnw_cm _ (by omega)]
  rfl
section
variable {B : Nat → Nat} {L : Nat} {s i x : Nat} {y : Int64}
theorem pFlat_cm {k t : Nat} (h : s ≠ t) : ∀ n j p R, pFlat B L k t n j p (rSet R s i x y) = mapP (fun R => rSet R s i x y) (pFlat B L k t n j p R)
  | 0, _, _, _ => rfl
  | n + 1, j, p, R => by
    unfold pFlat
    cases pNum B L k p with
    | error f => rfl
    | ok vp =>
      dsimp only
      rw [rSet_cm R h]
      exact pFlat_cm h n (j + 1) vp.2 _
theorem pRuns_cm {k t : Nat} (h : s ≠ t) : ∀ n j r v p R, pRuns B L k t n j r v p (rSet R s i x y) = mapP (fun R => rSet R s i x y) (pRuns B L k t n j r v p R)
  | 0, _, _, _, _, _ => by unfold pRuns; rfl
  | n + 1, j, 0, v, p, R => by
    unfold pRuns
    by_cases c : p < L ∧ 1 ≤ B p ∧ B p ≤ n + 1
    · rw [if_pos c, if_pos c]
      cases pNum B L k (p + 1) with
      | error f => rfl
      | ok vp =>
        dsimp only
        rw [rSet_cm R h]
        exact pRuns_cm h n (j + 1) _ vp.1 vp.2 _
    · rw [if_neg c, if_neg c]; rfl
  | n + 1, j, r + 1, v, p, R => by
    unfold pRuns
    rw [rSet_cm R h]
    exact pRuns_cm h n (j + 1) r v p _
theorem pSteps_cm {k t : Nat} (h : s ≠ t) : ∀ n j a p R, pSteps B L k t n j a p (rSet R s i x y) = mapP (fun R => rSet R s i x y) (pSteps B L k t n j a p R)
  | 0, _, _, _, _ => rfl
  | n + 1, j, a, p, R => by
    unfold pSteps
    cases pStep B L p 10 0 0 with
    | error f => rfl
    | ok vp =>
      dsimp only
      by_cases c : sX0_fits (nI k) (a + vp.1) = true
      · rw [if_pos c, if_pos c, rSet_cm R h]
        exact pSteps_cm h n (j + 1) _ vp.2 _
      · rw [if_neg c, if_neg c]; rfl
theorem pObj_cm {F : Nat → Nat → pR → pP} {k t : Nat} (h : s ≠ t) (hI : ∀ b p R pr, F b p R = .ok pr → p < L → rIn R pr.2 ∧ pr.1 ≤ L) (hF : ∀ b p R, s < R.1 → F b p (rSet R s i x y) = mapP (fun R => rSet R s i x y) (F b p R)) : ∀ n j p R, s < R.1 → pObj B L F k t n j p (rSet R s i x y) = mapP (fun R => rSet R s i x y) (pObj B L F k t n j p R)
  | 0, _, _, _, _ => rfl
  | n + 1, j, p, R, hs => by
    unfold pObj
    by_cases c : p < L ∧ sX1_mayStand (nI k) (nI (B p)) = true
    · rw [if_pos c, if_pos c]
      by_cases c2 : sX1_isArrayTag (nI (B p)) = true
      · rw [if_pos c2, if_pos c2, hF (B p) p R hs]
        cases e : F (B p) p R with
        | error f => rfl
        | ok pr =>
          show pObj B L F k t n (j + 1) pr.1 (rSet (rSet pr.2 s i x y) t j 10 (lN R.1)) = _
          rw [rSet_cm pr.2 h]
          exact pObj_cm h hI hF n (j + 1) pr.1 _ (Nat.lt_of_lt_of_le hs (hI _ _ _ _ e c.1).1.1)
      · rw [if_neg c2, if_neg c2, show pElem B L (rSet R s i x y) k (B p) (p + 1) = pElem B L R k (B p) (p + 1) from rfl]
        cases pElem B L R k (B p) (p + 1) with
        | error f => rfl
        | ok vp =>
          dsimp only
          rw [rSet_cm R h]
          exact pObj_cm h hI hF n (j + 1) vp.2 _ hs
    · rw [if_neg c, if_neg c]; rfl
theorem pArr_cm : ∀ g b p R, s < R.1 → pArr B L g b p (rSet R s i x y) = mapP (fun R => rSet R s i x y) (pArr B L g b p R)
  | 0, _, _, _, _ => rfl
  | g + 1, b, p, R, hs => by
    unfold pArr
    rw [show (rSet R s i x y).1 = R.1 from rfl]
    by_cases c : R.1 < 12
    · rw [if_pos c, if_pos c]
      by_cases c2 : p + 1 < L ∧ B (p + 1) ≤ 12
      · rw [if_pos c2, if_pos c2, rNew_cm R hs]
        by_cases c3 : b / 16 = 2
        · rw [if_pos c3, if_pos c3]; exact pRuns_cm (by omega) _ _ _ _ _ _
        · rw [if_neg c3, if_neg c3]
          by_cases c4 : b / 16 = 3
          · rw [if_pos c4, if_pos c4]; exact pSteps_cm (by omega) _ _ _ _ _
          · rw [if_neg c4, if_neg c4]
            by_cases c5 : b % 16 < 8
            · rw [if_pos c5, if_pos c5]; exact pFlat_cm (by omega) _ _ _ _
            · rw [if_neg c5, if_neg c5]
              exact pObj_cm (by omega) (pArr_in g) (pArr_cm g) _ _ _ _ (by show s < R.1 + 1; omega)
      · rw [if_neg c2, if_neg c2]; rfl
    · rw [if_neg c, if_neg c]; rfl
end
/-- rows that stay as they are -/
def rKp (R R' : pR) (t : Nat) : Prop := ∀ n, n < R.1 → n ≠ t → rW R' n = rW R n ∧ rV R' n = rV R n
theorem rKp.s {R R' : pR} {t : Nat} (j w : Nat) (v : Int64) (h : rKp (rSet R t j w v) R' t) : rKp R R' t := fun n hn hne => ⟨(h n hn hne).1.trans (xup_n _ _ _ hne), (h n hn hne).2.trans (xup_n _ _ _ hne)⟩
theorem pFlat_kp {B : Nat → Nat} {L k t : Nat} : ∀ {n j p : Nat} {R : pR} {pr : Nat × pR}, pFlat B L k t n j p R = .ok pr → rKp R pr.2 t
  | 0, _, _, R, _, h => by injection h with h; subst h; exact fun _ _ _ => ⟨rfl, rfl⟩
  | n + 1, j, p, R, pr, h => by
    unfold pFlat at h
    split at h
    · cases h
    · exact (pFlat_kp h).s _ _ _
theorem pRuns_kp {B : Nat → Nat} {L k t : Nat} : ∀ {n j r : Nat} {v : Int64} {p : Nat} {R : pR} {pr : Nat × pR}, pRuns B L k t n j r v p R = .ok pr → rKp R pr.2 t
  | 0, _, _, _, _, R, _, h => by unfold pRuns at h; injection h with h; subst h; exact fun _ _ _ => ⟨rfl, rfl⟩
  | n + 1, j, 0, v, p, R, pr, h => by
    unfold pRuns at h
    split at h
    · split at h
      · cases h
      · exact (pRuns_kp h).s _ _ _
    · cases h
  | n + 1, j, r + 1, v, p, R, pr, h => by
    unfold pRuns at h
    exact (pRuns_kp h).s _ _ _
theorem pSteps_kp {B : Nat → Nat} {L k t : Nat} : ∀ {n j : Nat} {a : Int64} {p : Nat} {R : pR} {pr : Nat × pR}, pSteps B L k t n j a p R = .ok pr → rKp R pr.2 t
  | 0, _, _, _, R, _, h => by injection h with h; subst h; exact fun _ _ _ => ⟨rfl, rfl⟩
  | n + 1, j, a, p, R, pr, h => by
    unfold pSteps at h
    split at h
    · cases h
    · split at h
      · exact (pSteps_kp h).s _ _ _
      · cases h
theorem pObj_kp {B : Nat → Nat} {L : Nat} {F : Nat → Nat → pR → pP} {k t : Nat} (hI : ∀ b p R pr, F b p R = .ok pr → p < L → rIn R pr.2 ∧ pr.1 ≤ L) (hF : ∀ b p R pr, F b p R = .ok pr → p < L → ∀ n, n < R.1 → rW pr.2 n = rW R n ∧ rV pr.2 n = rV R n) : ∀ {n j p : Nat} {R : pR} {pr : Nat × pR}, pObj B L F k t n j p R = .ok pr → rKp R pr.2 t
  | 0, _, _, R, _, h => by injection h with h; subst h; exact fun _ _ _ => ⟨rfl, rfl⟩
  | n + 1, j, p, R, pr, h => by
    unfold pObj at h
    split at h
    · rename_i c
      split at h
      · split at h
        · cases h
        · rename_i qr e
          have z := (pObj_kp hI hF h).s _ _ _
          have q := hF _ _ _ _ e c.1
          have q2 := (hI _ _ _ _ e c.1).1.1
          exact fun m hm hne => ⟨(z m (Nat.lt_of_lt_of_le hm q2) hne).1.trans (q m hm).1, (z m (Nat.lt_of_lt_of_le hm q2) hne).2.trans (q m hm).2⟩
      · split at h
        · cases h
        · exact (pObj_kp hI hF h).s _ _ _
    · cases h
theorem pArr_kp {B : Nat → Nat} {L : Nat} : ∀ (g b p : Nat) (R : pR) (pr : Nat × pR), pArr B L g b p R = .ok pr → p < L → ∀ n, n < R.1 → rW pr.2 n = rW R n ∧ rV pr.2 n = rV R n
  | 0, _, _, _, _, h, _ => by cases h
  | g + 1, b, p, R, pr, h, hp => by
    unfold pArr at h
    have key : ∀ (k z : Nat) (R' : pR), rKp (rNew R k z) R' R.1 → ∀ n, n < R.1 → rW R' n = rW R n ∧ rV R' n = rV R n := by
      intro k z R' hk n hn
      have q := hk n (by show n < R.1 + 1; omega) (by omega)
      exact ⟨q.1.trans (if_neg (by omega)), q.2.trans (if_neg (by omega))⟩
    split at h
    · split at h
      · split at h
        · exact key _ _ _ (pRuns_kp h)
        · split at h
          · exact key _ _ _ (pSteps_kp h)
          · split at h
            · exact key _ _ _ (pFlat_kp h)
            · exact key _ _ _ (pObj_kp (pArr_in g) (pArr_kp g) h)
      · cases h
    · cases h
