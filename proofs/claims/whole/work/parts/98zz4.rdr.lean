-- READING ROWS: the state of the rows
abbrev pR : Type := Nat × (Nat → Nat) × (Nat → Nat) × (Nat → Nat → Nat) × (Nat → Nat → Int64)
def rK (R : pR) : Nat → Nat := R.2.1
def rZ (R : pR) : Nat → Nat := R.2.2.1
def rW (R : pR) : Nat → Nat → Nat := R.2.2.2.1
def rV (R : pR) : Nat → Nat → Int64 := R.2.2.2.2
def rSet (R : pR) (t j w : Nat) (v : Int64) : pR := (R.1, R.2.1, R.2.2.1, xup R.2.2.2.1 t j w, xup R.2.2.2.2 t j v)
def rNew (R : pR) (k z : Nat) : pR := (R.1 + 1, xnw R.2.1 R.1 k, xnw R.2.2.1 R.1 z, xnw R.2.2.2.1 R.1 (fun _ => if k < 8 then k else 11), xnw R.2.2.2.2 R.1 (fun _ => 0))
abbrev pP : Type := Except Nat (Nat × pR)
def pFlat (B : Nat → Nat) (L k t : Nat) : Nat → Nat → Nat → pR → pP
  | 0, _, p, R => .ok (p, R)
  | n + 1, j, p, R => match pNum B L k p with
    | .error f => .error f
    | .ok vp => pFlat B L k t n (j + 1) vp.2 (rSet R t j k vp.1)
def pRuns (B : Nat → Nat) (L k t : Nat) : Nat → Nat → Nat → Int64 → Nat → pR → pP
  | 0, _, _, _, p, R => .ok (p, R)
  | n + 1, j, 0, _, p, R => if p < L ∧ 1 ≤ B p ∧ B p ≤ n + 1 then (match pNum B L k (p + 1) with
    | .error f => .error f
    | .ok vp => pRuns B L k t n (j + 1) (B p - 1) vp.1 vp.2 (rSet R t j k vp.1)) else .error p
  | n + 1, j, r + 1, v, p, R => pRuns B L k t n (j + 1) r v p (rSet R t j k v)
def pSteps (B : Nat → Nat) (L k t : Nat) : Nat → Nat → Int64 → Nat → pR → pP
  | 0, _, _, p, R => .ok (p, R)
  | n + 1, j, a, p, R => match pStep B L p 10 0 0 with
    | .error f => .error f
    | .ok vp => if sX0_fits (nI k) (a + vp.1) = true then pSteps B L k t n (j + 1) (a + vp.1) vp.2 (rSet R t j k (a + vp.1)) else .error p
-- places stay within what is read
theorem pNum_le {B : Nat → Nat} {L k p : Nat} {vp : Int64 × Nat} (h : pNum B L k p = .ok vp) : vp.2 ≤ L := by
  unfold pNum at h
  split at h
  · rename_i c
    split at h
    · injection h with h; subst h; exact c
    · cases h
  · cases h
theorem pStep_le {B : Nat → Nat} {L p : Nat} : ∀ {g n : Nat} {v : Int64} {vp : Int64 × Nat}, pStep B L p g n v = .ok vp → vp.2 ≤ L
  | 0, _, _, _, h => by cases h
  | g + 1, n, v, vp, h => by
    unfold pStep at h
    split at h
    · rename_i c
      split at h
      · cases h
      · split at h
        · exact pStep_le h
        · split at h
          · cases h
          · injection h with h; subst h; show p + (n + 1) ≤ L; omega
    · cases h
-- the class's rows
def CSr (R : pR) (A : xM) : Prop := R.1 ≤ 12 ∧ ∀ n, n < R.1 → rK R n < 16 ∧ rZ R n ≤ 12 ∧ mI A (10 + 3 * n) 0 = nI (rK R n) ∧ mI A (10 + 3 * n) 1 = nI (rZ R n) ∧ (14 ≤ rK R n → mL A (10 + 3 * n + 2) 0 = rV R n 0) ∧ ∀ j, j < rZ R n → mI A (10 + 3 * n + 1) j = nI (rW R n j) ∧ mL A (10 + 3 * n + 2) j = rV R n j
def CF (M0 A : xM) : Prop := sT M0 A ∧ ∀ x, (x < 8 ∨ x = 9 ∨ 46 ≤ x) → mI A x = mI M0 x ∧ mL A x = mL M0 x
def CS (M0 : xM) (p : Nat) (R : pR) (A : xM) : Prop := CF M0 A ∧ mI A 8 1 = nI R.1 ∧ mI A 8 2 = nI p ∧ mI A 8 3 = -1 ∧ CSr R A
def PR (M0 : xM) (q : pP) : Option Value → xM → Prop := fun r A => match q with
  | .ok pr => r = some (.int 1) ∧ CS M0 pr.1 pr.2 A
  | .error f => r = some (.int 0) ∧ CF M0 A ∧ mI A 8 3 = nI f
theorem CF.D {M0 A : xM} {so N : Nat} {B : Nat → Nat} {L : Nat} (h : CF M0 A) (hS : RdS M0 so N B L) : RdS A so N B L := hS.k h.1 (fun x hx => (h.2 x (Or.inl hx)).1)
theorem CF.t {M0 A A' : xM} (h : CF M0 A) (h' : CF A A') : CF M0 A' := ⟨h.1.tr h'.1, fun x hx => ⟨(h'.2 x hx).1.trans (h.2 x hx).1, (h'.2 x hx).2.trans (h.2 x hx).2⟩⟩
theorem CF.e {M0 A A' : xM} {f : Nat} (h : CF M0 A) (h' : Er A f A') : CF M0 A' := h.t ⟨h'.1, fun x hx => ⟨h'.2.1 x (by omega), h'.2.2.1 x (by omega)⟩⟩
theorem CF.i {M0 A : xM} (h : CF M0 A) (k : Nat) (x : Int32) : CF M0 (stI A 8 k x) := h.t ⟨⟨rfl, rfl, rfl⟩, fun x hx => ⟨mI_stI_c _ _ _ (by omega), rfl⟩⟩
theorem CF.rf (M0 : xM) : CF M0 M0 := ⟨sT.rf M0, fun _ _ => ⟨rfl, rfl⟩⟩
theorem CS.v {M0 A : xM} {p : Nat} {R : pR} (h : CS M0 p R A) (v : Int64) (q : Nat) : CS M0 q R (vpM A v q) := by
  obtain ⟨h1, h2, h3, h4, h5, h6⟩ := h
  refine ⟨h1.t ⟨sT_vpM A v q, fun x hx => ⟨vpM_I A (by omega), vpM_L A (by omega)⟩⟩, (vpM_o A v q (by decide)).trans h2, vpM_p A v q, (vpM_o A v q (by decide)).trans h4, h5, fun n hn => ?_⟩
  rw [vpM_I A (show 10 + 3 * n ≠ 8 by omega), vpM_I A (show 10 + 3 * n + 1 ≠ 8 by omega), vpM_L A (show 10 + 3 * n + 2 ≠ 8 by omega)]
  exact h6 n hn
theorem CS.fill {M0 A : xM} {p : Nat} {R : pR} (h : CS M0 p R A) {t j w : Nat} (ht : t < R.1) (hz : j < rZ R t) (v : Int64) (h14 : rK R t < 14) : CS M0 p (rSet R t j w v) (filM A (10 + 3 * t) j (nI w) v) := by
  obtain ⟨h1, h2, h3, h4, h5, h6⟩ := h
  have e8 : mI (filM A (10 + 3 * t) j (nI w) v) 8 = mI A 8 := mI_stI_c _ _ _ (by omega)
  refine ⟨h1.t ⟨⟨rfl, rfl, rfl⟩, fun x hx => ⟨mI_stI_c _ _ _ (by omega), mL_stL_c _ _ _ (by omega)⟩⟩, (congrFun e8 1).trans h2, (congrFun e8 2).trans h3, (congrFun e8 3).trans h4, h5, fun n hn => ?_⟩
  obtain ⟨a1, a2, a3, a4, a5, a6⟩ := h6 n hn
  have g0 : mI (filM A (10 + 3 * t) j (nI w) v) (10 + 3 * n) = mI A (10 + 3 * n) := mI_stI_c _ _ _ (by omega)
  refine ⟨a1, a2, (congrFun g0 0).trans a3, (congrFun g0 1).trans a4, fun z => ?_, fun i hi => ?_⟩
  · by_cases c : n = t
    · subst c; exact absurd (show 14 ≤ rK R n from z) (by omega)
    · have e1 : mL (filM A (10 + 3 * t) j (nI w) v) (10 + 3 * n + 2) = mL A (10 + 3 * n + 2) := mL_stL_c _ _ _ (by omega)
      have e2 : rV (rSet R t j w v) n = rV R n := xup_n _ _ _ c
      rw [e1, e2]
      exact a5 z
  · by_cases c : n = t
    · subst c
      show xup A.1 (10 + 3 * n + 1) j (nI w) (10 + 3 * n + 1) i = nI (xup (rW R) n j w n i) ∧ xup A.2.1 (10 + 3 * n + 2) j v (10 + 3 * n + 2) i = xup (rV R) n j v n i
      unfold xup
      rw [if_pos rfl, if_pos rfl, if_pos rfl, if_pos rfl]
      by_cases ci : i = j
      · rw [if_pos ci, if_pos ci, if_pos ci, if_pos ci]; exact ⟨rfl, rfl⟩
      · rw [if_neg ci, if_neg ci, if_neg ci, if_neg ci]; exact a6 i hi
    · have e1 : mL (filM A (10 + 3 * t) j (nI w) v) (10 + 3 * n + 2) = mL A (10 + 3 * n + 2) := mL_stL_c _ _ _ (by omega)
      have e2 : rV (rSet R t j w v) n = rV R n := xup_n _ _ _ c
      have e3 : mI (filM A (10 + 3 * t) j (nI w) v) (10 + 3 * n + 1) = mI A (10 + 3 * n + 1) := mI_stI_c _ _ _ (by omega)
      have e4 : rW (rSet R t j w v) n = rW R n := xup_n _ _ _ c
      rw [e1, e2, e3, e4]
      exact a6 i hi
theorem lp_tf {d : Nat} (hd : 4 ≤ d) {M0 : xM} {so N : Nat} {B : Nat → Nat} {L k t : Nat} (hS : RdS M0 so N B L) (hk8 : k < 8) : ∀ n j p (R : pR) (A : xM), CS M0 p R A → p ≤ L → t < R.1 → rK R t = k → rZ R t = j + n → AW (fX1_takeFlat d) 2 [(2, .int (nI j)), (0, .ref 8), (1, .ref (10 + 3 * t))] [] A 0 0 (PR M0 (pFlat B L k t n j p R)) := by
  intro n
  induction n with
  | zero =>
    intro j p R A hC hpl ht hkt hj
    have hL1 := hS.2.2.2.1
    have hL2 := hS.2.2.2.2.1
    have hD := hC.1.D hS
    have ht12 : t < 12 := by have := hC.2.2.2.2.1; omega
    obtain ⟨-, zz, a3, a4, -, -⟩ := hC.2.2.2.2.2 t ht
    have hk : mI A (10 + 3 * t) 0 = nI k := by rw [a3, hkt]
    have hz : mI A (10 + 3 * t) 1 = nI (j + 0) := by rw [a4, hj]
    rw [hj] at zz
    refine aw_iload_n dX1_takeFlat_2 0 rfl ?_
    refine aw_aload_n dX1_takeFlat_3 2 rfl ?_
    refine aw_getI dX1_takeFlat_4 fl_X1_83 (hD.1.rrow (t := t) ht12).1 (hD.1.rrow (t := t) ht12).n0 ?_
    refine aw_topE hz ?_
    refine aw_icmp_geN j (j + 0) 42 dX1_takeFlat_7 (by decide) rfl rfl (by omega) (by omega) (fun c1 => ?_) (fun c1 => absurd (by omega) c1)
    refine aw_iconst (v := 1) dX1_takeFlat_42 (by decide) ?_
    refine aw_zret dX1_takeFlat_43 rfl rfl (Nat.zero_le _) (Nat.zero_le _) ?_
    exact ⟨rfl, hC⟩
  | succ n ih =>
    intro j p R A hC hpl ht hkt hj
    have hL1 := hS.2.2.2.1
    have hL2 := hS.2.2.2.2.1
    have hD := hC.1.D hS
    have ht12 : t < 12 := by have := hC.2.2.2.2.1; omega
    obtain ⟨-, zz, a3, a4, -, -⟩ := hC.2.2.2.2.2 t ht
    have hk : mI A (10 + 3 * t) 0 = nI k := by rw [a3, hkt]
    have hz : mI A (10 + 3 * t) 1 = nI (j + (n + 1)) := by rw [a4, hj]
    rw [hj] at zz
    have hq := sp_tn (d := d - 1) (k := k) (by omega) hD hC.2.2.1 hpl hk8
    unfold pFlat
    cases e : pNum B L k p with
    | error f =>
      rw [e] at hq
      refine aw_iload_n dX1_takeFlat_2 0 rfl ?_
      refine aw_aload_n dX1_takeFlat_3 2 rfl ?_
      refine aw_getI dX1_takeFlat_4 fl_X1_83 (hD.1.rrow (t := t) ht12).1 (hD.1.rrow (t := t) ht12).n0 ?_
      refine aw_topE hz ?_
      refine aw_icmp_geN j (j + (n + 1)) 42 dX1_takeFlat_7 (by decide) rfl rfl (by omega) (by omega) (fun c1 => absurd c1 (by omega)) (fun c1 => ?_)
      refine aw_aload_n dX1_takeFlat_10 1 rfl ?_
      refine aw_aload_n dX1_takeFlat_11 2 rfl ?_
      refine aw_getI dX1_takeFlat_12 fl_X1_86 (hD.1.rrow (t := t) ht12).1 (hD.1.rrow (t := t) ht12).n0 ?_
      refine aw_topE hk ?_
      refine aw_callVx [.int (nI k)] [] hq dX1_takeFlat_15 ml_X1_103 im_X1_takeNumber (hD.1.s 8 (by decide)) (hD.1.n 8 (by decide)) rfl rfl (dl1 (d := d) (by omega)) rfl rfl (Nat.le_of_ble_eq_true rfl) rfl rfl (Nat.zero_le _) (Nat.zero_le _) (fun r A1 hA1 => ?_)
      obtain ⟨rfl, hA1⟩ := hA1
      refine aw_cons ?_
      refine aw_if_ne 23 dX1_takeFlat_18 (by decide) (fun c2 => absurd rfl c2) (fun c2 => ?_)
      refine aw_iconst (v := 0) dX1_takeFlat_21 (by decide) ?_
      refine aw_zret dX1_takeFlat_22 rfl rfl (Nat.zero_le _) (Nat.zero_le _) ?_
      exact ⟨rfl, hC.1.e hA1, hA1.2.2.2⟩
    | ok vp =>
      rw [e] at hq
      have q := ih (j + 1) vp.2 (rSet R t j k vp.1) _ ((hC.v vp.1 vp.2).fill (w := k) ht (by omega) vp.1 (by omega)) (pNum_le e) ht hkt (by show rZ R t = _; omega)
      refine aw_iload_n dX1_takeFlat_2 0 rfl ?_
      refine aw_aload_n dX1_takeFlat_3 2 rfl ?_
      refine aw_getI dX1_takeFlat_4 fl_X1_83 (hD.1.rrow (t := t) ht12).1 (hD.1.rrow (t := t) ht12).n0 ?_
      refine aw_topE hz ?_
      refine aw_icmp_geN j (j + (n + 1)) 42 dX1_takeFlat_7 (by decide) rfl rfl (by omega) (by omega) (fun c1 => absurd c1 (by omega)) (fun c1 => ?_)
      refine aw_aload_n dX1_takeFlat_10 1 rfl ?_
      refine aw_aload_n dX1_takeFlat_11 2 rfl ?_
      refine aw_getI dX1_takeFlat_12 fl_X1_86 (hD.1.rrow (t := t) ht12).1 (hD.1.rrow (t := t) ht12).n0 ?_
      refine aw_topE hk ?_
      refine aw_callVi [.int (nI k)] [] hq dX1_takeFlat_15 ml_X1_103 im_X1_takeNumber (hD.1.s 8 (by decide)) (hD.1.n 8 (by decide)) rfl rfl (dl1 (d := d) (by omega)) rfl rfl (Nat.le_of_ble_eq_true rfl) rfl rfl (Nat.zero_le _) (Nat.zero_le _) ?_
      refine aw_if_ne 23 dX1_takeFlat_18 (by decide) (fun c2 => ?_) (fun c2 => absurd c2 (by decide))
      refine aw_aload_n dX1_takeFlat_23 2 rfl ?_
      refine aw_iload_n dX1_takeFlat_24 0 rfl ?_
      refine aw_aload_n dX1_takeFlat_25 2 rfl ?_
      refine aw_getI dX1_takeFlat_26 fl_X1_86 ((hD.v vp.1 vp.2).1.rrow (t := t) ht12).1 ((hD.v vp.1 vp.2).1.rrow (t := t) ht12).n0 ?_
      refine aw_topE ((congrFun (vpM_I A (show 10 + 3 * t ≠ 8 by omega)) 0).trans hk) ?_
      refine aw_aload_n dX1_takeFlat_29 1 rfl ?_
      refine aw_getL dX1_takeFlat_30 fl_X1_27 ((hD.v vp.1 vp.2).1.s 8 (by decide)) ((hD.v vp.1 vp.2).1.n 8 (by decide)) ?_
      refine aw_toplE (vpM_v A vp.1 vp.2) ?_
      refine aw_callVv [.int (nI j), .int (nI k), .long vp.1] [] (sp_X2_fill (d := d - 1) (by omega) j (nI k) vp.1 ((hD.v vp.1 vp.2).1.rrow (t := t) ht12) (by omega)) dX1_takeFlat_33 ml_X1_96 im_X2_fill ((hD.v vp.1 vp.2).1.rrow (t := t) ht12).1 ((hD.v vp.1 vp.2).1.rrow (t := t) ht12).n0 rfl rfl (dl1 (d := d) (by omega)) rfl rfl (Nat.le_of_ble_eq_true rfl) rfl rfl (Nat.zero_le _) (Nat.zero_le _) ?_
      refine aw_iincN j 1 [(2, .int (nI (j + 1))), (0, .ref 8), (1, .ref (10 + 3 * t))] dX1_takeFlat_36 0 rfl rfl rfl (Nat.le_of_ble_eq_true rfl) rfl ?_
      refine aw_goto 2 dX1_takeFlat_39 (by decide) ?_
      exact q
theorem lp_tss {d : Nat} (hd : 2 ≤ d) {M0 : xM} {so N : Nat} {B : Nat → Nat} {L k t : Nat} (hS : RdS M0 so N B L) (hk8 : k < 8) : ∀ n j (a : Int64) p (R : pR) (A : xM), CS M0 p R A → p ≤ L → t < R.1 → rK R t = k → rZ R t = j + n → AW (fX1_takeSteps d) 5 [(4, .int (nI j)), (2, .long a), (0, .ref 8), (1, .ref (10 + 3 * t))] [] A 0 0 (PR M0 (pSteps B L k t n j a p R)) := by
  intro n
  induction n with
  | zero =>
    intro j a p R A hC hpl ht hkt hj
    have hL1 := hS.2.2.2.1
    have hL2 := hS.2.2.2.2.1
    have hD := hC.1.D hS
    have ht12 : t < 12 := by have := hC.2.2.2.2.1; omega
    obtain ⟨-, zz, a3, a4, -, -⟩ := hC.2.2.2.2.2 t ht
    have hk : mI A (10 + 3 * t) 0 = nI k := by rw [a3, hkt]
    have hz : mI A (10 + 3 * t) 1 = nI (j + 0) := by rw [a4, hj]
    rw [hj] at zz
    refine aw_iload dX1_takeSteps_5 0 rfl ?_
    refine aw_aload_n dX1_takeSteps_7 3 rfl ?_
    refine aw_getI dX1_takeSteps_8 fl_X1_83 (hD.1.rrow (t := t) ht12).1 (hD.1.rrow (t := t) ht12).n0 ?_
    refine aw_topE hz ?_
    refine aw_icmp_geN j (j + 0) 71 dX1_takeSteps_11 (by decide) rfl rfl (by omega) (by omega) (fun c1 => ?_) (fun c1 => absurd (by omega) c1)
    refine aw_iconst (v := 1) dX1_takeSteps_71 (by decide) ?_
    refine aw_zret dX1_takeSteps_72 rfl rfl (Nat.zero_le _) (Nat.zero_le _) ?_
    exact ⟨rfl, hC⟩
  | succ n ih =>
    intro j a p R A hC hpl ht hkt hj
    have hL1 := hS.2.2.2.1
    have hL2 := hS.2.2.2.2.1
    have hD := hC.1.D hS
    have ht12 : t < 12 := by have := hC.2.2.2.2.1; omega
    obtain ⟨-, zz, a3, a4, -, -⟩ := hC.2.2.2.2.2 t ht
    have hk : mI A (10 + 3 * t) 0 = nI k := by rw [a3, hkt]
    have hz : mI A (10 + 3 * t) 1 = nI (j + (n + 1)) := by rw [a4, hj]
    rw [hj] at zz
    have hq := sp_tst (d := d - 1) (by omega) hD hC.2.2.1 hpl
    unfold pSteps
    cases e : pStep B L p 10 0 0 with
    | error f =>
      rw [e] at hq
      refine aw_iload dX1_takeSteps_5 0 rfl ?_
      refine aw_aload_n dX1_takeSteps_7 3 rfl ?_
      refine aw_getI dX1_takeSteps_8 fl_X1_83 (hD.1.rrow (t := t) ht12).1 (hD.1.rrow (t := t) ht12).n0 ?_
      refine aw_topE hz ?_
      refine aw_icmp_geN j (j + (n + 1)) 71 dX1_takeSteps_11 (by decide) rfl rfl (by omega) (by omega) (fun c1 => absurd c1 (by omega)) (fun c1 => ?_)
      refine aw_aload_n dX1_takeSteps_14 2 rfl ?_
      refine aw_getI dX1_takeSteps_15 fl_X1_21 (hD.1.s 8 (by decide)) (hD.1.n 8 (by decide)) ?_
      refine aw_topE hC.2.2.1 ?_
      refine aw_istore [(5, .int (nI p)), (4, .int (nI j)), (2, .long a), (0, .ref 8), (1, .ref (10 + 3 * t))] dX1_takeSteps_18 (Nat.le_of_ble_eq_true rfl) rfl ?_
      refine aw_aload_n dX1_takeSteps_20 3 rfl ?_
      refine aw_callVx [] [] hq dX1_takeSteps_21 ml_X1_112 im_X1_takeStep (hD.1.s 8 (by decide)) (hD.1.n 8 (by decide)) rfl rfl (dl1 (d := d) (by omega)) rfl rfl (Nat.le_of_ble_eq_true rfl) rfl rfl (Nat.zero_le _) (Nat.zero_le _) (fun r A1 hA1 => ?_)
      obtain ⟨rfl, hA1⟩ := hA1
      refine aw_cons ?_
      refine aw_if_ne 29 dX1_takeSteps_24 (by decide) (fun c2 => absurd rfl c2) (fun c2 => ?_)
      refine aw_iconst (v := 0) dX1_takeSteps_27 (by decide) ?_
      refine aw_zret dX1_takeSteps_28 rfl rfl (Nat.zero_le _) (Nat.zero_le _) ?_
      exact ⟨rfl, hC.1.e hA1, hA1.2.2.2⟩
    | ok vp =>
      rw [e] at hq
      cases hf : sX0_fits (nI k) (a + vp.1) with
      | false =>
        dsimp only
        rw [hf, if_neg (by decide)]
        refine aw_iload dX1_takeSteps_5 0 rfl ?_
        refine aw_aload_n dX1_takeSteps_7 3 rfl ?_
        refine aw_getI dX1_takeSteps_8 fl_X1_83 (hD.1.rrow (t := t) ht12).1 (hD.1.rrow (t := t) ht12).n0 ?_
        refine aw_topE hz ?_
        refine aw_icmp_geN j (j + (n + 1)) 71 dX1_takeSteps_11 (by decide) rfl rfl (by omega) (by omega) (fun c1 => absurd c1 (by omega)) (fun c1 => ?_)
        refine aw_aload_n dX1_takeSteps_14 2 rfl ?_
        refine aw_getI dX1_takeSteps_15 fl_X1_21 (hD.1.s 8 (by decide)) (hD.1.n 8 (by decide)) ?_
        refine aw_topE hC.2.2.1 ?_
        refine aw_istore [(5, .int (nI p)), (4, .int (nI j)), (2, .long a), (0, .ref 8), (1, .ref (10 + 3 * t))] dX1_takeSteps_18 (Nat.le_of_ble_eq_true rfl) rfl ?_
        refine aw_aload_n dX1_takeSteps_20 3 rfl ?_
        refine aw_callVi [] [] hq dX1_takeSteps_21 ml_X1_112 im_X1_takeStep (hD.1.s 8 (by decide)) (hD.1.n 8 (by decide)) rfl rfl (dl1 (d := d) (by omega)) rfl rfl (Nat.le_of_ble_eq_true rfl) rfl rfl (Nat.zero_le _) (Nat.zero_le _) ?_
        refine aw_if_ne 29 dX1_takeSteps_24 (by decide) (fun c2 => ?_) (fun c2 => absurd c2 (by decide))
        refine aw_lload_n dX1_takeSteps_29 2 rfl ?_
        refine aw_aload_n dX1_takeSteps_30 3 rfl ?_
        refine aw_getL dX1_takeSteps_31 fl_X1_27 ((hD.v vp.1 vp.2).1.s 8 (by decide)) ((hD.v vp.1 vp.2).1.n 8 (by decide)) ?_
        refine aw_toplE (vpM_v A vp.1 vp.2) ?_
        refine aw_ladd dX1_takeSteps_34 ?_
        refine aw_lstore_n [(2, .long (a + vp.1)), (5, .int (nI p)), (4, .int (nI j)), (0, .ref 8), (1, .ref (10 + 3 * t))] dX1_takeSteps_35 (Nat.le_of_ble_eq_true rfl) rfl ?_
        refine aw_aload_n dX1_takeSteps_36 4 rfl ?_
        refine aw_getI dX1_takeSteps_37 fl_X1_86 ((hD.v vp.1 vp.2).1.rrow (t := t) ht12).1 ((hD.v vp.1 vp.2).1.rrow (t := t) ht12).n0 ?_
        refine aw_topE ((congrFun (vpM_I A (show 10 + 3 * t ≠ 8 by omega)) 0).trans hk) ?_
        refine aw_lload_n dX1_takeSteps_40 0 rfl ?_
        refine aw_callSi [.int (nI k), .long (a + vp.1)] [] (sp_X0_fits (d := d - 1) (by omega) (nI k) (a + vp.1) ) dX1_takeSteps_41 ml_X1_115 sm_X0_fits rfl (dl1 (d := d) (by omega)) rfl rfl (Nat.le_of_ble_eq_true rfl) rfl rfl (Nat.zero_le _) (Nat.zero_le _) ?_
        refine aw_if_ne 54 dX1_takeSteps_44 (by decide) (fun c3 => absurd (bz_0.mpr hf) c3) (fun c3 => ?_)
        refine aw_aload_n dX1_takeSteps_47 3 rfl ?_
        refine aw_iload dX1_takeSteps_48 1 rfl ?_
        refine aw_callVi [.int (nI p)] [] (sp_X1_failAt (d := d - 1) (nI p) (hD.v vp.1 vp.2).1) dX1_takeSteps_50 ml_X1_49 im_X1_failAt ((hD.v vp.1 vp.2).1.s 8 (by decide)) ((hD.v vp.1 vp.2).1.n 8 (by decide)) rfl rfl (dl1 (d := d) (by omega)) rfl rfl (Nat.le_of_ble_eq_true rfl) rfl rfl (Nat.zero_le _) (Nat.zero_le _) ?_
        refine aw_zret dX1_takeSteps_53 rfl rfl (Nat.zero_le _) (Nat.zero_le _) ?_
        exact ⟨rfl, (hC.v vp.1 vp.2).1.i 3 (nI p), mI_stI_v _ _ _ _⟩
      | true =>
        dsimp only
        rw [hf, if_pos rfl]
        have q := ih (j + 1) (a + vp.1) vp.2 (rSet R t j k (a + vp.1)) _ ((hC.v vp.1 vp.2).fill (w := k) ht (by omega) (a + vp.1) (by omega)) (pStep_le e) ht hkt (by show rZ R t = _; omega)
        refine aw_iload dX1_takeSteps_5 0 rfl ?_
        refine aw_aload_n dX1_takeSteps_7 3 rfl ?_
        refine aw_getI dX1_takeSteps_8 fl_X1_83 (hD.1.rrow (t := t) ht12).1 (hD.1.rrow (t := t) ht12).n0 ?_
        refine aw_topE hz ?_
        refine aw_icmp_geN j (j + (n + 1)) 71 dX1_takeSteps_11 (by decide) rfl rfl (by omega) (by omega) (fun c1 => absurd c1 (by omega)) (fun c1 => ?_)
        refine aw_aload_n dX1_takeSteps_14 2 rfl ?_
        refine aw_getI dX1_takeSteps_15 fl_X1_21 (hD.1.s 8 (by decide)) (hD.1.n 8 (by decide)) ?_
        refine aw_topE hC.2.2.1 ?_
        refine aw_istore [(5, .int (nI p)), (4, .int (nI j)), (2, .long a), (0, .ref 8), (1, .ref (10 + 3 * t))] dX1_takeSteps_18 (Nat.le_of_ble_eq_true rfl) rfl ?_
        refine aw_aload_n dX1_takeSteps_20 3 rfl ?_
        refine aw_callVi [] [] hq dX1_takeSteps_21 ml_X1_112 im_X1_takeStep (hD.1.s 8 (by decide)) (hD.1.n 8 (by decide)) rfl rfl (dl1 (d := d) (by omega)) rfl rfl (Nat.le_of_ble_eq_true rfl) rfl rfl (Nat.zero_le _) (Nat.zero_le _) ?_
        refine aw_if_ne 29 dX1_takeSteps_24 (by decide) (fun c2 => ?_) (fun c2 => absurd c2 (by decide))
        refine aw_lload_n dX1_takeSteps_29 2 rfl ?_
        refine aw_aload_n dX1_takeSteps_30 3 rfl ?_
        refine aw_getL dX1_takeSteps_31 fl_X1_27 ((hD.v vp.1 vp.2).1.s 8 (by decide)) ((hD.v vp.1 vp.2).1.n 8 (by decide)) ?_
        refine aw_toplE (vpM_v A vp.1 vp.2) ?_
        refine aw_ladd dX1_takeSteps_34 ?_
        refine aw_lstore_n [(2, .long (a + vp.1)), (5, .int (nI p)), (4, .int (nI j)), (0, .ref 8), (1, .ref (10 + 3 * t))] dX1_takeSteps_35 (Nat.le_of_ble_eq_true rfl) rfl ?_
        refine aw_aload_n dX1_takeSteps_36 4 rfl ?_
        refine aw_getI dX1_takeSteps_37 fl_X1_86 ((hD.v vp.1 vp.2).1.rrow (t := t) ht12).1 ((hD.v vp.1 vp.2).1.rrow (t := t) ht12).n0 ?_
        refine aw_topE ((congrFun (vpM_I A (show 10 + 3 * t ≠ 8 by omega)) 0).trans hk) ?_
        refine aw_lload_n dX1_takeSteps_40 0 rfl ?_
        refine aw_callSi [.int (nI k), .long (a + vp.1)] [] (sp_X0_fits (d := d - 1) (by omega) (nI k) (a + vp.1) ) dX1_takeSteps_41 ml_X1_115 sm_X0_fits rfl (dl1 (d := d) (by omega)) rfl rfl (Nat.le_of_ble_eq_true rfl) rfl rfl (Nat.zero_le _) (Nat.zero_le _) ?_
        refine aw_if_ne 54 dX1_takeSteps_44 (by decide) (fun c3 => ?_) (fun c3 => absurd c3 (bz_n0.mpr hf))
        refine aw_aload_n dX1_takeSteps_54 4 rfl ?_
        refine aw_iload dX1_takeSteps_55 2 rfl ?_
        refine aw_aload_n dX1_takeSteps_57 4 rfl ?_
        refine aw_getI dX1_takeSteps_58 fl_X1_86 ((hD.v vp.1 vp.2).1.rrow (t := t) ht12).1 ((hD.v vp.1 vp.2).1.rrow (t := t) ht12).n0 ?_
        refine aw_topE ((congrFun (vpM_I A (show 10 + 3 * t ≠ 8 by omega)) 0).trans hk) ?_
        refine aw_lload_n dX1_takeSteps_61 0 rfl ?_
        refine aw_callVv [.int (nI j), .int (nI k), .long (a + vp.1)] [] (sp_X2_fill (d := d - 1) (by omega) j (nI k) (a + vp.1) ((hD.v vp.1 vp.2).1.rrow (t := t) ht12) (by omega)) dX1_takeSteps_62 ml_X1_96 im_X2_fill ((hD.v vp.1 vp.2).1.rrow (t := t) ht12).1 ((hD.v vp.1 vp.2).1.rrow (t := t) ht12).n0 rfl rfl (dl1 (d := d) (by omega)) rfl rfl (Nat.le_of_ble_eq_true rfl) rfl rfl (Nat.zero_le _) (Nat.zero_le _) ?_
        refine aw_iincN j 1 [(4, .int (nI (j + 1))), (2, .long (a + vp.1)), (5, .int (nI p)), (0, .ref 8), (1, .ref (10 + 3 * t))] dX1_takeSteps_65 2 rfl rfl rfl (Nat.le_of_ble_eq_true rfl) rfl ?_
        refine aw_goto 5 dX1_takeSteps_68 (by decide) ?_
        refine aw_sub [0, 1, 3, 4] rfl ?_
        exact q
