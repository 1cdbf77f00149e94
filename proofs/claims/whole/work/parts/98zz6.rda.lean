-- THE CLASS READS ARRAYS
def pObj (B : Nat → Nat) (L : Nat) (F : Nat → Nat → pR → pP) (k t : Nat) : Nat → Nat → Nat → pR → pP
  | 0, _, p, R => .ok (p, R)
  | n + 1, j, p, R => if p < L ∧ sX1_mayStand (nI k) (nI (B p)) = true then (if sX1_isArrayTag (nI (B p)) = true then (match F (B p) p R with
    | .error f => .error f
    | .ok pr => pObj B L F k t n (j + 1) pr.1 (rSet pr.2 t j 10 (lN R.1))) else (match pElem B L R k (B p) (p + 1) with
    | .error f => .error f
    | .ok vp => pObj B L F k t n (j + 1) vp.2 (rSet R t j (B p) vp.1))) else .error p
def pArr (B : Nat → Nat) (L : Nat) : Nat → Nat → Nat → pR → pP
  | 0, _, p, _ => .error p
  | g + 1, b, p, R => if R.1 < 12 then (if p + 1 < L ∧ B (p + 1) ≤ 12 then (if b / 16 = 2 then pRuns B L (b % 16) R.1 (B (p + 1)) 0 0 0 (p + 1 + 1) (rNew R (b % 16) (B (p + 1))) else if b / 16 = 3 then pSteps B L (b % 16) R.1 (B (p + 1)) 0 0 (p + 1 + 1) (rNew R (b % 16) (B (p + 1))) else if b % 16 < 8 then pFlat B L (b % 16) R.1 (B (p + 1)) 0 (p + 1 + 1) (rNew R (b % 16) (B (p + 1))) else pObj B L (pArr B L g) (b % 16) R.1 (B (p + 1)) 0 (p + 1 + 1) (rNew R (b % 16) (B (p + 1)))) else .error (p + 1)) else .error p
/-- what stood stays: numbers, kinds and sizes of the rows -/
def rIn (R R' : pR) : Prop := R.1 ≤ R'.1 ∧ ∀ n, n < R.1 → rK R' n = rK R n ∧ rZ R' n = rZ R n
theorem rIn.rf (R : pR) : rIn R R := ⟨Nat.le_refl _, fun _ _ => ⟨rfl, rfl⟩⟩
theorem rIn.t {R S T : pR} (h : rIn R S) (h' : rIn S T) : rIn R T := ⟨Nat.le_trans h.1 h'.1, fun n hn => ⟨(h'.2 n (Nat.lt_of_lt_of_le hn h.1)).1.trans (h.2 n hn).1, (h'.2 n (Nat.lt_of_lt_of_le hn h.1)).2.trans (h.2 n hn).2⟩⟩
theorem rIn.s {R S : pR} (h : rIn R S) (t j w : Nat) (v : Int64) : rIn R (rSet S t j w v) := h
theorem rIn.n (R : pR) (k z : Nat) : rIn R (rNew R k z) := ⟨Nat.le_succ _, fun n hn => ⟨if_neg (by omega), if_neg (by omega)⟩⟩
theorem pFlat_in {B : Nat → Nat} {L k t : Nat} : ∀ {n j p : Nat} {R : pR} {pr : Nat × pR}, pFlat B L k t n j p R = .ok pr → p ≤ L → rIn R pr.2 ∧ pr.1 ≤ L ∧ pr.2.1 = R.1
  | 0, _, _, R, _, h, hp => by injection h with h; subst h; exact ⟨rIn.rf R, hp, rfl⟩
  | n + 1, j, p, R, pr, h, hp => by
    unfold pFlat at h
    split at h
    · cases h
    · rename_i vp e
      exact pFlat_in (R := rSet R t j k vp.1) h (pNum_le e)
theorem pRuns_in {B : Nat → Nat} {L k t : Nat} : ∀ {n j r : Nat} {v : Int64} {p : Nat} {R : pR} {pr : Nat × pR}, pRuns B L k t n j r v p R = .ok pr → p ≤ L → rIn R pr.2 ∧ pr.1 ≤ L ∧ pr.2.1 = R.1
  | 0, _, _, _, _, R, _, h, hp => by unfold pRuns at h; injection h with h; subst h; exact ⟨rIn.rf R, hp, rfl⟩
  | n + 1, j, 0, v, p, R, pr, h, hp => by
    unfold pRuns at h
    split at h
    · split at h
      · cases h
      · rename_i vp e
        exact pRuns_in (R := rSet R t j k vp.1) h (pNum_le e)
    · cases h
  | n + 1, j, r + 1, v, p, R, pr, h, hp => by
    unfold pRuns at h
    exact pRuns_in (R := rSet R t j k v) h hp
theorem pSteps_in {B : Nat → Nat} {L k t : Nat} : ∀ {n j : Nat} {a : Int64} {p : Nat} {R : pR} {pr : Nat × pR}, pSteps B L k t n j a p R = .ok pr → p ≤ L → rIn R pr.2 ∧ pr.1 ≤ L ∧ pr.2.1 = R.1
  | 0, _, _, _, R, _, h, hp => by injection h with h; subst h; exact ⟨rIn.rf R, hp, rfl⟩
  | n + 1, j, a, p, R, pr, h, hp => by
    unfold pSteps at h
    split at h
    · cases h
    · rename_i vp e
      split at h
      · exact pSteps_in (R := rSet R t j k (a + vp.1)) h (pStep_le e)
      · cases h
theorem pLet_le {B : Nat → Nat} {L : Nat} : ∀ {n c p : Nat} {vp : Int64 × Nat}, pLet B L n c p = .ok vp → p ≤ L → vp.2 ≤ L
  | 0, _, _, _, h, hp => by injection h with h; subst h; exact hp
  | n + 1, c, p, vp, h, hp => by
    unfold pLet at h
    split at h
    · exact pLet_le h (by omega)
    · cases h
theorem pElem_le {B : Nat → Nat} {L : Nat} {R : pR} {k b p : Nat} {vp : Int64 × Nat} (h : pElem B L R k b p = .ok vp) (hp : p ≤ L) : vp.2 ≤ L := by
  unfold pElem at h
  split at h
  · unfold pWord at h
    split at h
    · exact pLet_le h (by omega)
    · cases h
  · split at h
    · generalize (if k = 11 then 3 else 0) = a at h
      unfold pBead at h
      split at h
      · injection h with h; subst h; show p + 1 ≤ L; omega
      · cases h
    · split at h
      · unfold pLink at h
        split at h
        · injection h with h; subst h; show p + 1 ≤ L; omega
        · cases h
      · split at h
        · injection h with h; subst h; exact hp
        · exact pNum_le h
theorem pObj_in {B : Nat → Nat} {L : Nat} {F : Nat → Nat → pR → pP} {k t : Nat} (hF : ∀ b p R pr, F b p R = .ok pr → p < L → rIn R pr.2 ∧ pr.1 ≤ L) : ∀ {n j p : Nat} {R : pR} {pr : Nat × pR}, pObj B L F k t n j p R = .ok pr → p ≤ L → rIn R pr.2 ∧ pr.1 ≤ L
  | 0, _, _, R, _, h, hp => by injection h with h; subst h; exact ⟨rIn.rf R, hp⟩
  | n + 1, j, p, R, pr, h, hp => by
    unfold pObj at h
    split at h
    · rename_i c
      split at h
      · split at h
        · cases h
        · rename_i qr e
          have q := hF _ _ _ _ e c.1
          have z := pObj_in hF h q.2
          exact ⟨(q.1.s t j 10 (lN R.1)).t z.1, z.2⟩
      · split at h
        · cases h
        · rename_i vp e
          exact pObj_in (R := rSet R t j (B p) vp.1) hF h (pElem_le e (by omega))
    · cases h
theorem pArr_in {B : Nat → Nat} {L : Nat} : ∀ (g b p : Nat) (R : pR) (pr : Nat × pR), pArr B L g b p R = .ok pr → p < L → rIn R pr.2 ∧ pr.1 ≤ L
  | 0, _, _, _, _, h, _ => by cases h
  | g + 1, b, p, R, pr, h, hp => by
    unfold pArr at h
    split at h
    · split at h
      · rename_i c
        have hn := rIn.n R (b % 16) (B (p + 1))
        split at h
        · have z := pRuns_in h (by omega); exact ⟨hn.t z.1, z.2.1⟩
        · split at h
          · have z := pSteps_in h (by omega); exact ⟨hn.t z.1, z.2.1⟩
          · split at h
            · have z := pFlat_in h (by omega); exact ⟨hn.t z.1, z.2.1⟩
            · have z := pObj_in (pArr_in g) h (by omega); exact ⟨hn.t z.1, z.2⟩
      · cases h
    · cases h
theorem tg_sw : ∀ b, b < 256 → (nI b) >>> ((4 : Int32) &&& 31) = nI (b / 16) := by decide +kernel
theorem tg_sw2 {b c : Nat} (hb : b < 256) (h : b / 16 = c + 1) : ((nI b) >>> ((4 : Int32) &&& 31)) - 1 = nI c := by
  rw [tg_sw b hb, h]
  show nI (c + 1) - nI 1 = nI c
  rw [nI_sb (by omega), Nat.add_sub_cancel]
theorem and15 {b : Nat} : nI b &&& 15 = nI (b % 16) := by
  show nI b &&& nI 15 = _
  rw [nx_and, show b &&& 15 = b % 16 from Nat.and_two_pow_sub_one_eq_mod b 4]
theorem tg_ok : ∀ b, b < 256 → sX1_isArrayTag (nI b) = true → (b / 16 = 1 ∨ b / 16 = 2 ∨ b / 16 = 3) ∧ b % 16 < 14 ∧ (b / 16 = 2 → b % 16 < 8) ∧ (b / 16 = 3 → b % 16 < 6 ∧ 0 < b % 16) := by decide +kernel
theorem el_ok : ∀ k, k < 14 → 8 ≤ k → ∀ b, b < 256 → sX1_mayStand (nI k) (nI b) = true → sX1_isArrayTag (nI b) = false → b < 12 := by decide +kernel
theorem ms_m1 : ∀ k, k < 14 → 8 ≤ k → sX1_mayStand (nI k) (-1) = false := by decide
theorem CS.new {M0 A : xM} {p : Nat} {R : pR} (h : CS M0 p R A) {k z : Nat} (hu : R.1 < 12) (hk : k < 14) (hz : z ≤ 12) (q : Nat) : CS M0 q (rNew R k z) (beaM (stI (stI (stI A 8 1 (nI (R.1 + 1))) 8 2 (nI (p + 1))) 8 2 (nI q)) (10 + 3 * R.1) (nI k) z) := by
  obtain ⟨h1, h2, h3, h4, h5, h6⟩ := h
  have eI : ∀ x, x ≠ 8 → x ≠ 10 + 3 * R.1 → x ≠ 10 + 3 * R.1 + 1 → mI (beaM (stI (stI (stI A 8 1 (nI (R.1 + 1))) 8 2 (nI (p + 1))) 8 2 (nI q)) (10 + 3 * R.1) (nI k) z) x = mI A x := by
    intro x x1 x2 x3
    unfold beaM
    rw [show ∀ (X : xM) (y n : Nat) (g : Nat → Int64), mI (flL X y 0 n g) x = mI X x from fun _ _ _ _ => rfl, mI_flI_ne _ x3, mI_stI_c _ _ _ x2, mI_stI_c _ _ _ x2, mI_stI_c _ _ _ x1, mI_stI_c _ _ _ x1, mI_stI_c _ _ _ x1]
  have e8 : mI (beaM (stI (stI (stI A 8 1 (nI (R.1 + 1))) 8 2 (nI (p + 1))) 8 2 (nI q)) (10 + 3 * R.1) (nI k) z) 8 = mI (stI (stI (stI A 8 1 (nI (R.1 + 1))) 8 2 (nI (p + 1))) 8 2 (nI q)) 8 := by
    unfold beaM
    rw [show ∀ (X : xM) (y n : Nat) (g : Nat → Int64), mI (flL X y 0 n g) 8 = mI X 8 from fun _ _ _ _ => rfl, mI_flI_ne _ (by omega), mI_stI_c _ _ _ (by omega), mI_stI_c _ _ _ (by omega)]
  have eL : ∀ x, x ≠ 10 + 3 * R.1 + 2 → mL (beaM (stI (stI (stI A 8 1 (nI (R.1 + 1))) 8 2 (nI (p + 1))) 8 2 (nI q)) (10 + 3 * R.1) (nI k) z) x = mL A x := by
    intro x x1
    unfold beaM
    rw [mL_flL_ne _ x1]
    rfl
  refine ⟨h1.t ⟨⟨rfl, rfl, rfl⟩, fun x hx => ⟨eI x (by omega) (by omega) (by omega), eL x (by omega)⟩⟩, ?_, ?_, ?_, hu, fun n hn => ?_⟩
  · rw [e8, mI_stI_o _ _ _ _ (by decide), mI_stI_o _ _ _ _ (by decide), mI_stI_v]; rfl
  · rw [e8, mI_stI_v]
  · rw [e8, mI_stI_o _ _ _ _ (by decide), mI_stI_o _ _ _ _ (by decide), mI_stI_o _ _ _ _ (by decide)]; exact h4
  · by_cases c : n = R.1
    · subst c
      have k1 : rK (rNew R k z) R.1 = k := if_pos rfl
      have k2 : rZ (rNew R k z) R.1 = z := if_pos rfl
      have k3 : rW (rNew R k z) R.1 = fun _ => if k < 8 then k else 11 := if_pos rfl
      have k4 : rV (rNew R k z) R.1 = fun _ => 0 := if_pos rfl
      rw [k1, k2, k3, k4]
      have f0 : ∀ i, mI (beaM (stI (stI (stI A 8 1 (nI (R.1 + 1))) 8 2 (nI (p + 1))) 8 2 (nI q)) (10 + 3 * R.1) (nI k) z) (10 + 3 * R.1) i = mI (stI (stI (stI (stI (stI A 8 1 (nI (R.1 + 1))) 8 2 (nI (p + 1))) 8 2 (nI q)) (10 + 3 * R.1) 0 (nI k)) (10 + 3 * R.1) 1 (nI z)) (10 + 3 * R.1) i := by
        intro i
        unfold beaM
        rw [show ∀ (X : xM) (y n : Nat) (g : Nat → Int64), mI (flL X y 0 n g) (10 + 3 * R.1) = mI X (10 + 3 * R.1) from fun _ _ _ _ => rfl, mI_flI_ne _ (by omega)]
      refine ⟨by omega, hz, ?_, ?_, fun z => absurd z (by omega), fun j hj => ⟨?_, ?_⟩⟩
      · rw [f0, mI_stI_o _ _ _ _ (by decide), mI_stI_v]
      · rw [f0, mI_stI_v]
      · unfold beaM
        rw [show ∀ (X : xM) (y n : Nat) (g : Nat → Int64), mI (flL X y 0 n g) (10 + 3 * R.1 + 1) = mI X (10 + 3 * R.1 + 1) from fun _ _ _ _ => rfl]
        have q := mI_flI_at (stI (stI (stI (stI (stI A 8 1 (nI (R.1 + 1))) 8 2 (nI (p + 1))) 8 2 (nI q)) (10 + 3 * R.1) 0 (nI k)) (10 + 3 * R.1) 1 (nI z)) (a := 10 + 3 * R.1 + 1) (lo := 0) (g := fun _ => if sX0_isKind (nI k) = true then nI k else 11) hj
        rw [Nat.zero_add] at q
        rw [q, isk14 hk]
        by_cases c8 : k < 8
        · rw [if_pos c8, if_pos (decide_eq_true c8)]
        · rw [if_neg c8, if_neg (by simp [c8])]; rfl
      · unfold beaM
        have q := mL_flL_at (flI (stI (stI (stI (stI (stI A 8 1 (nI (R.1 + 1))) 8 2 (nI (p + 1))) 8 2 (nI q)) (10 + 3 * R.1) 0 (nI k)) (10 + 3 * R.1) 1 (nI z)) (10 + 3 * R.1 + 1) 0 z (fun _ => if sX0_isKind (nI k) = true then nI k else 11)) (a := 10 + 3 * R.1 + 2) (lo := 0) (g := fun _ => (0 : Int64)) hj
        rw [Nat.zero_add] at q
        exact q
    · have hn' : n < R.1 := by have : n < R.1 + 1 := hn; omega
      have k1 : rK (rNew R k z) n = rK R n := if_neg c
      have k2 : rZ (rNew R k z) n = rZ R n := if_neg c
      have k3 : rW (rNew R k z) n = rW R n := if_neg c
      have k4 : rV (rNew R k z) n = rV R n := if_neg c
      rw [k1, k2, k3, k4, eI (10 + 3 * n) (by omega) (by omega) (by omega), eI (10 + 3 * n + 1) (by omega) (by omega) (by omega), eL (10 + 3 * n + 2) (by omega)]
      exact h6 n hn' 
theorem sp_tF {d : Nat} (hd : 4 ≤ d) {M0 : xM} {so N : Nat} {B : Nat → Nat} {L k t : Nat} (hS : RdS M0 so N B L) (hk8 : k < 8) {n p : Nat} {R : pR} {A : xM} (hC : CS M0 p R A) (hpl : p ≤ L) (ht : t < R.1) (hkt : rK R t = k) (hj : rZ R t = n) : Sp (fX1_takeFlat d) [.ref 8, .ref (10 + 3 * t)] A (PR M0 (pFlat B L k t n 0 p R)) := by
  refine Sp.of pn_X1 (Nat.le_of_ble_eq_true rfl) (fun h => Bool.noConfusion h) ?_
  refine aw_iconst (v := 0) dX1_takeFlat_0 (by decide) ?_
  refine aw_istore_n [(2, .int 0), (0, .ref 8), (1, .ref (10 + 3 * t))] dX1_takeFlat_1 (Nat.le_of_ble_eq_true rfl) rfl ?_
  exact lp_tf hd hS hk8 n 0 p R A hC hpl ht hkt (by omega)
theorem sp_tR {d : Nat} (hd : 4 ≤ d) {M0 : xM} {so N : Nat} {B : Nat → Nat} {L k t : Nat} (hS : RdS M0 so N B L) (hk8 : k < 8) {n p : Nat} {R : pR} {A : xM} (hC : CS M0 p R A) (hpl : p ≤ L) (ht : t < R.1) (hkt : rK R t = k) (hj : rZ R t = n) : Sp (fX1_takeRuns d) [.ref 8, .ref (10 + 3 * t)] A (PR M0 (pRuns B L k t n 0 0 0 p R)) := by
  refine Sp.of pn_X1 (Nat.le_of_ble_eq_true rfl) (fun h => Bool.noConfusion h) ?_
  refine aw_iconst (v := 0) dX1_takeRuns_0 (by decide) ?_
  refine aw_istore_n [(2, .int 0), (0, .ref 8), (1, .ref (10 + 3 * t))] dX1_takeRuns_1 (Nat.le_of_ble_eq_true rfl) rfl ?_
  refine aw_iconst (v := 0) dX1_takeRuns_2 (by decide) ?_
  refine aw_istore_n [(3, .int 0), (2, .int 0), (0, .ref 8), (1, .ref (10 + 3 * t))] dX1_takeRuns_3 (Nat.le_of_ble_eq_true rfl) rfl ?_
  exact lp_tr hd hS hk8 n 0 0 0 p R A hC hpl ht hkt (by omega) (fun z => absurd z (by omega)) (by omega)
theorem sp_tS {d : Nat} (hd : 2 ≤ d) {M0 : xM} {so N : Nat} {B : Nat → Nat} {L k t : Nat} (hS : RdS M0 so N B L) (hk8 : k < 8) {n p : Nat} {R : pR} {A : xM} (hC : CS M0 p R A) (hpl : p ≤ L) (ht : t < R.1) (hkt : rK R t = k) (hj : rZ R t = n) : Sp (fX1_takeSteps d) [.ref 8, .ref (10 + 3 * t)] A (PR M0 (pSteps B L k t n 0 0 p R)) := by
  refine Sp.of pn_X1 (Nat.le_of_ble_eq_true rfl) (fun h => Bool.noConfusion h) ?_
  refine aw_lconst (v := 0) dX1_takeSteps_0 (by decide) ?_
  refine aw_lstore_n [(2, .long 0), (0, .ref 8), (1, .ref (10 + 3 * t))] dX1_takeSteps_1 (Nat.le_of_ble_eq_true rfl) rfl ?_
  refine aw_iconst (v := 0) dX1_takeSteps_2 (by decide) ?_
  refine aw_istore [(4, .int 0), (2, .long 0), (0, .ref 8), (1, .ref (10 + 3 * t))] dX1_takeSteps_3 (Nat.le_of_ble_eq_true rfl) rfl ?_
  exact lp_tss hd hS hk8 n 0 0 p R A hC hpl ht hkt (by omega)
theorem lp_to {d : Nat} (hd : 5 ≤ d) {M0 : xM} {so N : Nat} {B : Nat → Nat} {L k t : Nat} {g : Nat} {F : Nat → Nat → pR → pP} (hS : RdS M0 so N B L) (hk8 : 8 ≤ k) (hk14 : k < 14) (hI : ∀ b p R pr, F b p R = .ok pr → p < L → rIn R pr.2 ∧ pr.1 ≤ L) (hA : ∀ p (R : pR) (A : xM), CS M0 p R A → p < L → 12 ≤ R.1 + g → sX1_isArrayTag (nI (B p)) = true → Sp (fX1_takeArray (d - 1)) [.ref 8, .int (nI (B p))] A (PR M0 (F (B p) p R))) : ∀ n j p (R : pR) (A : xM), CS M0 p R A → p ≤ L → t < R.1 → rK R t = k → rZ R t = j + n → 12 ≤ R.1 + g → AW (fX1_takeObjects d) 2 [(2, .int (nI j)), (0, .ref 8), (1, .ref (10 + 3 * t))] [] A 0 0 (PR M0 (pObj B L F k t n j p R)) := by
  intro n
  induction n with
  | zero =>
    intro j p R A hC hpl ht hkt hj hg
    have hL1 := hS.2.2.2.1
    have hL2 := hS.2.2.2.2.1
    have hD := hC.1.D hS
    have ht12 : t < 12 := by have := hC.2.2.2.2.1; omega
    obtain ⟨-, zz, a3, a4, -, -⟩ := hC.2.2.2.2.2 t ht
    have hk : mI A (10 + 3 * t) 0 = nI k := by rw [a3, hkt]
    have hz : mI A (10 + 3 * t) 1 = nI (j + 0) := by rw [a4, hj]
    rw [hj] at zz
    refine aw_iload_n dX1_takeObjects_2 0 rfl ?_
    refine aw_aload_n dX1_takeObjects_3 2 rfl ?_
    refine aw_getI dX1_takeObjects_4 fl_X1_83 (hD.1.rrow (t := t) ht12).1 (hD.1.rrow (t := t) ht12).n0 ?_
    refine aw_topE hz ?_
    refine aw_icmp_geN j (j + 0) 121 dX1_takeObjects_7 (by decide) rfl rfl (by omega) (by omega) (fun c1 => ?_) (fun c1 => absurd (by omega) c1)
    refine aw_iconst (v := 1) dX1_takeObjects_121 (by decide) ?_
    refine aw_zret dX1_takeObjects_122 rfl rfl (Nat.zero_le _) (Nat.zero_le _) ?_
    exact ⟨rfl, hC⟩
  | succ n ih =>
    intro j p R A hC hpl ht hkt hj hg
    have hL1 := hS.2.2.2.1
    have hL2 := hS.2.2.2.2.1
    have hD := hC.1.D hS
    have ht12 : t < 12 := by have := hC.2.2.2.2.1; omega
    obtain ⟨-, zz, a3, a4, -, -⟩ := hC.2.2.2.2.2 t ht
    have hk : mI A (10 + 3 * t) 0 = nI k := by rw [a3, hkt]
    have hz : mI A (10 + 3 * t) 1 = nI (j + (n + 1)) := by rw [a4, hj]
    rw [hj] at zz
    have hu12 := hC.2.2.2.2.1
    unfold pObj
    by_cases cl : p < L
    · have hb := (hD.2.2.2.2.2.2.2 p cl).2
      cases hms : sX1_mayStand (nI k) (nI (B p)) with
      | false =>
        rw [if_neg (fun z => by cases z.2)]
        refine aw_iload_n dX1_takeObjects_2 0 rfl ?_
        refine aw_aload_n dX1_takeObjects_3 2 rfl ?_
        refine aw_getI dX1_takeObjects_4 fl_X1_83 (hD.1.rrow (t := t) ht12).1 (hD.1.rrow (t := t) ht12).n0 ?_
        refine aw_topE hz ?_
        refine aw_icmp_geN j (j + (n + 1)) 121 dX1_takeObjects_7 (by decide) rfl rfl (by omega) (by omega) (fun c1 => absurd c1 (by omega)) (fun c1 => ?_)
        refine aw_aload_n dX1_takeObjects_10 1 rfl ?_
        refine aw_getR (b := so) dX1_takeObjects_11 fl_X1_31 rfl (hD.1.s 8 (by decide)) (hD.1.n 8 (by decide)) hD.2.1 ?_
        refine aw_aload_n dX1_takeObjects_14 1 rfl ?_
        refine aw_getI dX1_takeObjects_15 fl_X1_21 (hD.1.s 8 (by decide)) (hD.1.n 8 (by decide)) ?_
        refine aw_topE hC.2.2.1 ?_
        refine aw_callVi [.int (nI p)] [] (sp_at (d := d - 1) hD cl) dX1_takeObjects_18 ml_X1_36 im_X3_at hD.2.2.1.1 hD.2.2.1.n0 rfl rfl (dl1 (d := d) (by omega)) rfl rfl (Nat.le_of_ble_eq_true rfl) rfl rfl (Nat.zero_le _) (Nat.zero_le _) ?_
        refine aw_istore_n [(3, .int (nI (B p))), (2, .int (nI j)), (0, .ref 8), (1, .ref (10 + 3 * t))] dX1_takeObjects_21 (Nat.le_of_ble_eq_true rfl) rfl ?_
        refine aw_aload_n dX1_takeObjects_22 3 rfl ?_
        refine aw_getI dX1_takeObjects_23 fl_X1_86 (hD.1.rrow (t := t) ht12).1 (hD.1.rrow (t := t) ht12).n0 ?_
        refine aw_topE hk ?_
        refine aw_iload_n dX1_takeObjects_26 0 rfl ?_
        refine aw_callSi [.int (nI k), .int (nI (B p))] [] (sp_X1_mayStand (d := d - 1) (by omega) (nI k) (nI (B p))) dX1_takeObjects_27 ml_X1_89 sm_X1_mayStand rfl (dl1 (d := d) (by omega)) rfl rfl (Nat.le_of_ble_eq_true rfl) rfl rfl (Nat.zero_le _) (Nat.zero_le _) ?_
        refine aw_if_ne 42 dX1_takeObjects_30 (by decide) (fun c2 => absurd (bz_0.mpr hms) c2) (fun c2 => ?_)
        refine aw_aload_n dX1_takeObjects_33 2 rfl ?_
        refine aw_aload_n dX1_takeObjects_34 2 rfl ?_
        refine aw_getI dX1_takeObjects_35 fl_X1_21 (hD.1.s 8 (by decide)) (hD.1.n 8 (by decide)) ?_
        refine aw_topE hC.2.2.1 ?_
        refine aw_callVi [.int (nI p)] [] (sp_X1_failAt (d := d - 1) (nI p) hD.1) dX1_takeObjects_38 ml_X1_49 im_X1_failAt (hD.1.s 8 (by decide)) (hD.1.n 8 (by decide)) rfl rfl (dl1 (d := d) (by omega)) rfl rfl (Nat.le_of_ble_eq_true rfl) rfl rfl (Nat.zero_le _) (Nat.zero_le _) ?_
        refine aw_zret dX1_takeObjects_41 rfl rfl (Nat.zero_le _) (Nat.zero_le _) ?_
        exact ⟨rfl, hC.1.i 3 (nI p), mI_stI_v _ _ _ _⟩
      | true =>
        rw [if_pos ⟨cl, rfl⟩]
        cases htag : sX1_isArrayTag (nI (B p)) with
        | true =>
          rw [if_pos rfl]
          have hq := hA p R A hC cl hg htag
          cases e : F (B p) p R with
          | error f =>
            rw [e] at hq
            refine aw_iload_n dX1_takeObjects_2 0 rfl ?_
            refine aw_aload_n dX1_takeObjects_3 2 rfl ?_
            refine aw_getI dX1_takeObjects_4 fl_X1_83 (hD.1.rrow (t := t) ht12).1 (hD.1.rrow (t := t) ht12).n0 ?_
            refine aw_topE hz ?_
            refine aw_icmp_geN j (j + (n + 1)) 121 dX1_takeObjects_7 (by decide) rfl rfl (by omega) (by omega) (fun c1 => absurd c1 (by omega)) (fun c1 => ?_)
            refine aw_aload_n dX1_takeObjects_10 1 rfl ?_
            refine aw_getR (b := so) dX1_takeObjects_11 fl_X1_31 rfl (hD.1.s 8 (by decide)) (hD.1.n 8 (by decide)) hD.2.1 ?_
            refine aw_aload_n dX1_takeObjects_14 1 rfl ?_
            refine aw_getI dX1_takeObjects_15 fl_X1_21 (hD.1.s 8 (by decide)) (hD.1.n 8 (by decide)) ?_
            refine aw_topE hC.2.2.1 ?_
            refine aw_callVi [.int (nI p)] [] (sp_at (d := d - 1) hD cl) dX1_takeObjects_18 ml_X1_36 im_X3_at hD.2.2.1.1 hD.2.2.1.n0 rfl rfl (dl1 (d := d) (by omega)) rfl rfl (Nat.le_of_ble_eq_true rfl) rfl rfl (Nat.zero_le _) (Nat.zero_le _) ?_
            refine aw_istore_n [(3, .int (nI (B p))), (2, .int (nI j)), (0, .ref 8), (1, .ref (10 + 3 * t))] dX1_takeObjects_21 (Nat.le_of_ble_eq_true rfl) rfl ?_
            refine aw_aload_n dX1_takeObjects_22 3 rfl ?_
            refine aw_getI dX1_takeObjects_23 fl_X1_86 (hD.1.rrow (t := t) ht12).1 (hD.1.rrow (t := t) ht12).n0 ?_
            refine aw_topE hk ?_
            refine aw_iload_n dX1_takeObjects_26 0 rfl ?_
            refine aw_callSi [.int (nI k), .int (nI (B p))] [] (sp_X1_mayStand (d := d - 1) (by omega) (nI k) (nI (B p))) dX1_takeObjects_27 ml_X1_89 sm_X1_mayStand rfl (dl1 (d := d) (by omega)) rfl rfl (Nat.le_of_ble_eq_true rfl) rfl rfl (Nat.zero_le _) (Nat.zero_le _) ?_
            refine aw_if_ne 42 dX1_takeObjects_30 (by decide) (fun c2 => ?_) (fun c2 => absurd c2 (bz_n0.mpr hms))
            refine aw_iload_n dX1_takeObjects_42 0 rfl ?_
            refine aw_callSi [.int (nI (B p))] [] (sp_X1_isArrayTag (d := d - 1) (by omega) (nI (B p))) dX1_takeObjects_43 ml_X1_42 sm_X1_isArrayTag rfl (dl1 (d := d) (by omega)) rfl rfl (Nat.le_of_ble_eq_true rfl) rfl rfl (Nat.zero_le _) (Nat.zero_le _) ?_
            refine aw_topE (show bz (sX1_isArrayTag (nI (B p))) = 1 by rw [htag]; rfl) ?_
            refine aw_istore [(4, .int 1), (3, .int (nI (B p))), (2, .int (nI j)), (0, .ref 8), (1, .ref (10 + 3 * t))] dX1_takeObjects_46 (Nat.le_of_ble_eq_true rfl) rfl ?_
            refine aw_aload_n dX1_takeObjects_48 3 rfl ?_
            refine aw_getI dX1_takeObjects_49 fl_X1_17 (hD.1.s 8 (by decide)) (hD.1.n 8 (by decide)) ?_
            refine aw_topE hC.2.1 ?_
            refine aw_istore [(5, .int (nI R.1)), (4, .int 1), (3, .int (nI (B p))), (2, .int (nI j)), (0, .ref 8), (1, .ref (10 + 3 * t))] dX1_takeObjects_52 (Nat.le_of_ble_eq_true rfl) rfl ?_
            refine aw_iload dX1_takeObjects_54 1 rfl ?_
            refine aw_if_eq 70 dX1_takeObjects_56 (by decide) (fun c3 => absurd c3 (by decide)) (fun c3 => ?_)
            refine aw_aload_n dX1_takeObjects_59 4 rfl ?_
            refine aw_iload_n dX1_takeObjects_60 2 rfl ?_
            refine aw_callVx [.int (nI (B p))] [] hq dX1_takeObjects_61 ml_X1_46 im_X1_takeArray (hD.1.s 8 (by decide)) (hD.1.n 8 (by decide)) rfl rfl (dl1 (d := d) (by omega)) rfl rfl (Nat.le_of_ble_eq_true rfl) rfl rfl (Nat.zero_le _) (Nat.zero_le _) (fun r A1 hA1 => ?_)
            obtain ⟨rfl, hA1⟩ := hA1
            refine aw_cons ?_
            refine aw_if_eq 82 dX1_takeObjects_64 (by decide) (fun c4 => ?_) (fun c4 => absurd rfl c4)
            refine aw_iconst (v := 0) dX1_takeObjects_82 (by decide) ?_
            refine aw_zret dX1_takeObjects_83 rfl rfl (Nat.zero_le _) (Nat.zero_le _) ?_
            exact ⟨rfl, hA1⟩
          | ok pr =>
            rw [e] at hq
            obtain ⟨i1, i2⟩ := hI _ _ _ _ e cl
            refine aw_iload_n dX1_takeObjects_2 0 rfl ?_
            refine aw_aload_n dX1_takeObjects_3 2 rfl ?_
            refine aw_getI dX1_takeObjects_4 fl_X1_83 (hD.1.rrow (t := t) ht12).1 (hD.1.rrow (t := t) ht12).n0 ?_
            refine aw_topE hz ?_
            refine aw_icmp_geN j (j + (n + 1)) 121 dX1_takeObjects_7 (by decide) rfl rfl (by omega) (by omega) (fun c1 => absurd c1 (by omega)) (fun c1 => ?_)
            refine aw_aload_n dX1_takeObjects_10 1 rfl ?_
            refine aw_getR (b := so) dX1_takeObjects_11 fl_X1_31 rfl (hD.1.s 8 (by decide)) (hD.1.n 8 (by decide)) hD.2.1 ?_
            refine aw_aload_n dX1_takeObjects_14 1 rfl ?_
            refine aw_getI dX1_takeObjects_15 fl_X1_21 (hD.1.s 8 (by decide)) (hD.1.n 8 (by decide)) ?_
            refine aw_topE hC.2.2.1 ?_
            refine aw_callVi [.int (nI p)] [] (sp_at (d := d - 1) hD cl) dX1_takeObjects_18 ml_X1_36 im_X3_at hD.2.2.1.1 hD.2.2.1.n0 rfl rfl (dl1 (d := d) (by omega)) rfl rfl (Nat.le_of_ble_eq_true rfl) rfl rfl (Nat.zero_le _) (Nat.zero_le _) ?_
            refine aw_istore_n [(3, .int (nI (B p))), (2, .int (nI j)), (0, .ref 8), (1, .ref (10 + 3 * t))] dX1_takeObjects_21 (Nat.le_of_ble_eq_true rfl) rfl ?_
            refine aw_aload_n dX1_takeObjects_22 3 rfl ?_
            refine aw_getI dX1_takeObjects_23 fl_X1_86 (hD.1.rrow (t := t) ht12).1 (hD.1.rrow (t := t) ht12).n0 ?_
            refine aw_topE hk ?_
            refine aw_iload_n dX1_takeObjects_26 0 rfl ?_
            refine aw_callSi [.int (nI k), .int (nI (B p))] [] (sp_X1_mayStand (d := d - 1) (by omega) (nI k) (nI (B p))) dX1_takeObjects_27 ml_X1_89 sm_X1_mayStand rfl (dl1 (d := d) (by omega)) rfl rfl (Nat.le_of_ble_eq_true rfl) rfl rfl (Nat.zero_le _) (Nat.zero_le _) ?_
            refine aw_if_ne 42 dX1_takeObjects_30 (by decide) (fun c2 => ?_) (fun c2 => absurd c2 (bz_n0.mpr hms))
            refine aw_iload_n dX1_takeObjects_42 0 rfl ?_
            refine aw_callSi [.int (nI (B p))] [] (sp_X1_isArrayTag (d := d - 1) (by omega) (nI (B p))) dX1_takeObjects_43 ml_X1_42 sm_X1_isArrayTag rfl (dl1 (d := d) (by omega)) rfl rfl (Nat.le_of_ble_eq_true rfl) rfl rfl (Nat.zero_le _) (Nat.zero_le _) ?_
            refine aw_topE (show bz (sX1_isArrayTag (nI (B p))) = 1 by rw [htag]; rfl) ?_
            refine aw_istore [(4, .int 1), (3, .int (nI (B p))), (2, .int (nI j)), (0, .ref 8), (1, .ref (10 + 3 * t))] dX1_takeObjects_46 (Nat.le_of_ble_eq_true rfl) rfl ?_
            refine aw_aload_n dX1_takeObjects_48 3 rfl ?_
            refine aw_getI dX1_takeObjects_49 fl_X1_17 (hD.1.s 8 (by decide)) (hD.1.n 8 (by decide)) ?_
            refine aw_topE hC.2.1 ?_
            refine aw_istore [(5, .int (nI R.1)), (4, .int 1), (3, .int (nI (B p))), (2, .int (nI j)), (0, .ref 8), (1, .ref (10 + 3 * t))] dX1_takeObjects_52 (Nat.le_of_ble_eq_true rfl) rfl ?_
            refine aw_iload dX1_takeObjects_54 1 rfl ?_
            refine aw_if_eq 70 dX1_takeObjects_56 (by decide) (fun c3 => absurd c3 (by decide)) (fun c3 => ?_)
            refine aw_aload_n dX1_takeObjects_59 4 rfl ?_
            refine aw_iload_n dX1_takeObjects_60 2 rfl ?_
            refine aw_callVx [.int (nI (B p))] [] hq dX1_takeObjects_61 ml_X1_46 im_X1_takeArray (hD.1.s 8 (by decide)) (hD.1.n 8 (by decide)) rfl rfl (dl1 (d := d) (by omega)) rfl rfl (Nat.le_of_ble_eq_true rfl) rfl rfl (Nat.zero_le _) (Nat.zero_le _) (fun r A1 hA1 => ?_)
            obtain ⟨rfl, hA1⟩ := hA1
            refine aw_cons ?_
            have hD1 := hA1.1.D hS
            refine aw_if_eq 82 dX1_takeObjects_64 (by decide) (fun c4 => absurd c4 (by decide)) (fun c4 => ?_)
            refine aw_goto 84 dX1_takeObjects_67 (by decide) ?_
            refine aw_aload_n dX1_takeObjects_84 5 rfl ?_
            refine aw_iload_n dX1_takeObjects_85 3 rfl ?_
            refine aw_iload dX1_takeObjects_86 1 rfl ?_
            refine aw_if_eq 96 dX1_takeObjects_88 (by decide) (fun c5 => absurd c5 (by decide)) (fun c5 => ?_)
            refine aw_bipush (v := 10) dX1_takeObjects_91 (by decide) ?_
            refine aw_goto 97 dX1_takeObjects_93 (by decide) ?_
            refine aw_iload dX1_takeObjects_97 1 rfl ?_
            refine aw_if_eq 108 dX1_takeObjects_99 (by decide) (fun c6 => absurd c6 (by decide)) (fun c6 => ?_)
            refine aw_iload dX1_takeObjects_102 0 rfl ?_
            refine aw_i2lN R.1 dX1_takeObjects_104 rfl (by omega) ?_
            refine aw_goto 112 dX1_takeObjects_105 (by decide) ?_
            refine aw_callVv [.int (nI j), .int 10, .long (lN R.1)] [] (sp_X2_fill (d := d - 1) (by omega) j 10 (lN R.1) (hD1.1.rrow (t := t) ht12) (by omega)) dX1_takeObjects_112 ml_X1_96 im_X2_fill (hD1.1.rrow (t := t) ht12).1 (hD1.1.rrow (t := t) ht12).n0 rfl rfl (dl1 (d := d) (by omega)) rfl rfl (Nat.le_of_ble_eq_true rfl) rfl rfl (Nat.zero_le _) (Nat.zero_le _) ?_
            refine aw_iincN j 1 [(2, .int (nI (j + 1))), (5, .int (nI R.1)), (4, .int 1), (3, .int (nI (B p))), (0, .ref 8), (1, .ref (10 + 3 * t))] dX1_takeObjects_115 3 rfl rfl rfl (Nat.le_of_ble_eq_true rfl) rfl ?_
            refine aw_goto 2 dX1_takeObjects_118 (by decide) ?_
            refine aw_sub [0, 4, 5] rfl ?_
            exact ih (j + 1) pr.1 (rSet pr.2 t j 10 (lN R.1)) _ (hA1.fill (w := 10) (Nat.lt_of_lt_of_le ht i1.1) (by rw [(i1.2 t ht).2]; omega) (lN R.1) (by rw [(i1.2 t ht).1]; omega)) i2 (Nat.lt_of_lt_of_le ht i1.1) ((i1.2 t ht).1.trans hkt) (by show rZ pr.2 t = _; rw [(i1.2 t ht).2]; omega) (by have := i1.1; show 12 ≤ pr.2.1 + g; omega)
        | false =>
          rw [if_neg (by decide)]
          have hb12 := el_ok k hk14 hk8 (B p) hb hms htag
          have hq := sp_te (d := d - 1) (by omega) hS hC (show p + 1 ≤ L by omega) (show k < 16 by omega) hb12
          cases e : pElem B L R k (B p) (p + 1) with
          | error f =>
            rw [e] at hq
            refine aw_iload_n dX1_takeObjects_2 0 rfl ?_
            refine aw_aload_n dX1_takeObjects_3 2 rfl ?_
            refine aw_getI dX1_takeObjects_4 fl_X1_83 (hD.1.rrow (t := t) ht12).1 (hD.1.rrow (t := t) ht12).n0 ?_
            refine aw_topE hz ?_
            refine aw_icmp_geN j (j + (n + 1)) 121 dX1_takeObjects_7 (by decide) rfl rfl (by omega) (by omega) (fun c1 => absurd c1 (by omega)) (fun c1 => ?_)
            refine aw_aload_n dX1_takeObjects_10 1 rfl ?_
            refine aw_getR (b := so) dX1_takeObjects_11 fl_X1_31 rfl (hD.1.s 8 (by decide)) (hD.1.n 8 (by decide)) hD.2.1 ?_
            refine aw_aload_n dX1_takeObjects_14 1 rfl ?_
            refine aw_getI dX1_takeObjects_15 fl_X1_21 (hD.1.s 8 (by decide)) (hD.1.n 8 (by decide)) ?_
            refine aw_topE hC.2.2.1 ?_
            refine aw_callVi [.int (nI p)] [] (sp_at (d := d - 1) hD cl) dX1_takeObjects_18 ml_X1_36 im_X3_at hD.2.2.1.1 hD.2.2.1.n0 rfl rfl (dl1 (d := d) (by omega)) rfl rfl (Nat.le_of_ble_eq_true rfl) rfl rfl (Nat.zero_le _) (Nat.zero_le _) ?_
            refine aw_istore_n [(3, .int (nI (B p))), (2, .int (nI j)), (0, .ref 8), (1, .ref (10 + 3 * t))] dX1_takeObjects_21 (Nat.le_of_ble_eq_true rfl) rfl ?_
            refine aw_aload_n dX1_takeObjects_22 3 rfl ?_
            refine aw_getI dX1_takeObjects_23 fl_X1_86 (hD.1.rrow (t := t) ht12).1 (hD.1.rrow (t := t) ht12).n0 ?_
            refine aw_topE hk ?_
            refine aw_iload_n dX1_takeObjects_26 0 rfl ?_
            refine aw_callSi [.int (nI k), .int (nI (B p))] [] (sp_X1_mayStand (d := d - 1) (by omega) (nI k) (nI (B p))) dX1_takeObjects_27 ml_X1_89 sm_X1_mayStand rfl (dl1 (d := d) (by omega)) rfl rfl (Nat.le_of_ble_eq_true rfl) rfl rfl (Nat.zero_le _) (Nat.zero_le _) ?_
            refine aw_if_ne 42 dX1_takeObjects_30 (by decide) (fun c2 => ?_) (fun c2 => absurd c2 (bz_n0.mpr hms))
            refine aw_iload_n dX1_takeObjects_42 0 rfl ?_
            refine aw_callSi [.int (nI (B p))] [] (sp_X1_isArrayTag (d := d - 1) (by omega) (nI (B p))) dX1_takeObjects_43 ml_X1_42 sm_X1_isArrayTag rfl (dl1 (d := d) (by omega)) rfl rfl (Nat.le_of_ble_eq_true rfl) rfl rfl (Nat.zero_le _) (Nat.zero_le _) ?_
            refine aw_topE (show bz (sX1_isArrayTag (nI (B p))) = 0 by rw [htag]; rfl) ?_
            refine aw_istore [(4, .int 0), (3, .int (nI (B p))), (2, .int (nI j)), (0, .ref 8), (1, .ref (10 + 3 * t))] dX1_takeObjects_46 (Nat.le_of_ble_eq_true rfl) rfl ?_
            refine aw_aload_n dX1_takeObjects_48 3 rfl ?_
            refine aw_getI dX1_takeObjects_49 fl_X1_17 (hD.1.s 8 (by decide)) (hD.1.n 8 (by decide)) ?_
            refine aw_topE hC.2.1 ?_
            refine aw_istore [(5, .int (nI R.1)), (4, .int 0), (3, .int (nI (B p))), (2, .int (nI j)), (0, .ref 8), (1, .ref (10 + 3 * t))] dX1_takeObjects_52 (Nat.le_of_ble_eq_true rfl) rfl ?_
            refine aw_iload dX1_takeObjects_54 1 rfl ?_
            refine aw_if_eq 70 dX1_takeObjects_56 (by decide) (fun c3 => ?_) (fun c3 => absurd rfl c3)
            refine aw_aload_n dX1_takeObjects_70 4 rfl ?_
            refine aw_aload_n dX1_takeObjects_71 5 rfl ?_
            refine aw_getI dX1_takeObjects_72 fl_X1_86 (hD.1.rrow (t := t) ht12).1 (hD.1.rrow (t := t) ht12).n0 ?_
            refine aw_topE hk ?_
            refine aw_iload_n dX1_takeObjects_75 2 rfl ?_
            refine aw_callVx [.int (nI k), .int (nI (B p))] [] hq dX1_takeObjects_76 ml_X1_93 im_X1_takeElement (hD.1.s 8 (by decide)) (hD.1.n 8 (by decide)) rfl rfl (dl1 (d := d) (by omega)) rfl rfl (Nat.le_of_ble_eq_true rfl) rfl rfl (Nat.zero_le _) (Nat.zero_le _) (fun r A1 hA1 => ?_)
            obtain ⟨rfl, hA1⟩ := hA1
            refine aw_cons ?_
            refine aw_if_ne 84 dX1_takeObjects_79 (by decide) (fun c4 => absurd rfl c4) (fun c4 => ?_)
            refine aw_iconst (v := 0) dX1_takeObjects_82 (by decide) ?_
            refine aw_zret dX1_takeObjects_83 rfl rfl (Nat.zero_le _) (Nat.zero_le _) ?_
            exact ⟨rfl, hC.1.e hA1, hA1.2.2.2⟩
          | ok vp =>
            rw [e] at hq
            have q := ih (j + 1) vp.2 (rSet R t j (B p) vp.1) _ ((hC.v vp.1 vp.2).fill (w := B p) ht (by omega) vp.1 (by omega)) (pElem_le e (by omega)) ht hkt (by show rZ R t = _; omega) hg
            refine aw_iload_n dX1_takeObjects_2 0 rfl ?_
            refine aw_aload_n dX1_takeObjects_3 2 rfl ?_
            refine aw_getI dX1_takeObjects_4 fl_X1_83 (hD.1.rrow (t := t) ht12).1 (hD.1.rrow (t := t) ht12).n0 ?_
            refine aw_topE hz ?_
            refine aw_icmp_geN j (j + (n + 1)) 121 dX1_takeObjects_7 (by decide) rfl rfl (by omega) (by omega) (fun c1 => absurd c1 (by omega)) (fun c1 => ?_)
            refine aw_aload_n dX1_takeObjects_10 1 rfl ?_
            refine aw_getR (b := so) dX1_takeObjects_11 fl_X1_31 rfl (hD.1.s 8 (by decide)) (hD.1.n 8 (by decide)) hD.2.1 ?_
            refine aw_aload_n dX1_takeObjects_14 1 rfl ?_
            refine aw_getI dX1_takeObjects_15 fl_X1_21 (hD.1.s 8 (by decide)) (hD.1.n 8 (by decide)) ?_
            refine aw_topE hC.2.2.1 ?_
            refine aw_callVi [.int (nI p)] [] (sp_at (d := d - 1) hD cl) dX1_takeObjects_18 ml_X1_36 im_X3_at hD.2.2.1.1 hD.2.2.1.n0 rfl rfl (dl1 (d := d) (by omega)) rfl rfl (Nat.le_of_ble_eq_true rfl) rfl rfl (Nat.zero_le _) (Nat.zero_le _) ?_
            refine aw_istore_n [(3, .int (nI (B p))), (2, .int (nI j)), (0, .ref 8), (1, .ref (10 + 3 * t))] dX1_takeObjects_21 (Nat.le_of_ble_eq_true rfl) rfl ?_
            refine aw_aload_n dX1_takeObjects_22 3 rfl ?_
            refine aw_getI dX1_takeObjects_23 fl_X1_86 (hD.1.rrow (t := t) ht12).1 (hD.1.rrow (t := t) ht12).n0 ?_
            refine aw_topE hk ?_
            refine aw_iload_n dX1_takeObjects_26 0 rfl ?_
            refine aw_callSi [.int (nI k), .int (nI (B p))] [] (sp_X1_mayStand (d := d - 1) (by omega) (nI k) (nI (B p))) dX1_takeObjects_27 ml_X1_89 sm_X1_mayStand rfl (dl1 (d := d) (by omega)) rfl rfl (Nat.le_of_ble_eq_true rfl) rfl rfl (Nat.zero_le _) (Nat.zero_le _) ?_
            refine aw_if_ne 42 dX1_takeObjects_30 (by decide) (fun c2 => ?_) (fun c2 => absurd c2 (bz_n0.mpr hms))
            refine aw_iload_n dX1_takeObjects_42 0 rfl ?_
            refine aw_callSi [.int (nI (B p))] [] (sp_X1_isArrayTag (d := d - 1) (by omega) (nI (B p))) dX1_takeObjects_43 ml_X1_42 sm_X1_isArrayTag rfl (dl1 (d := d) (by omega)) rfl rfl (Nat.le_of_ble_eq_true rfl) rfl rfl (Nat.zero_le _) (Nat.zero_le _) ?_
            refine aw_topE (show bz (sX1_isArrayTag (nI (B p))) = 0 by rw [htag]; rfl) ?_
            refine aw_istore [(4, .int 0), (3, .int (nI (B p))), (2, .int (nI j)), (0, .ref 8), (1, .ref (10 + 3 * t))] dX1_takeObjects_46 (Nat.le_of_ble_eq_true rfl) rfl ?_
            refine aw_aload_n dX1_takeObjects_48 3 rfl ?_
            refine aw_getI dX1_takeObjects_49 fl_X1_17 (hD.1.s 8 (by decide)) (hD.1.n 8 (by decide)) ?_
            refine aw_topE hC.2.1 ?_
            refine aw_istore [(5, .int (nI R.1)), (4, .int 0), (3, .int (nI (B p))), (2, .int (nI j)), (0, .ref 8), (1, .ref (10 + 3 * t))] dX1_takeObjects_52 (Nat.le_of_ble_eq_true rfl) rfl ?_
            refine aw_iload dX1_takeObjects_54 1 rfl ?_
            refine aw_if_eq 70 dX1_takeObjects_56 (by decide) (fun c3 => ?_) (fun c3 => absurd rfl c3)
            refine aw_aload_n dX1_takeObjects_70 4 rfl ?_
            refine aw_aload_n dX1_takeObjects_71 5 rfl ?_
            refine aw_getI dX1_takeObjects_72 fl_X1_86 (hD.1.rrow (t := t) ht12).1 (hD.1.rrow (t := t) ht12).n0 ?_
            refine aw_topE hk ?_
            refine aw_iload_n dX1_takeObjects_75 2 rfl ?_
            refine aw_callVi [.int (nI k), .int (nI (B p))] [] hq dX1_takeObjects_76 ml_X1_93 im_X1_takeElement (hD.1.s 8 (by decide)) (hD.1.n 8 (by decide)) rfl rfl (dl1 (d := d) (by omega)) rfl rfl (Nat.le_of_ble_eq_true rfl) rfl rfl (Nat.zero_le _) (Nat.zero_le _) ?_
            refine aw_if_ne 84 dX1_takeObjects_79 (by decide) (fun c4 => ?_) (fun c4 => absurd c4 (by decide))
            refine aw_aload_n dX1_takeObjects_84 5 rfl ?_
            refine aw_iload_n dX1_takeObjects_85 3 rfl ?_
            refine aw_iload dX1_takeObjects_86 1 rfl ?_
            refine aw_if_eq 96 dX1_takeObjects_88 (by decide) (fun c5 => ?_) (fun c5 => absurd rfl c5)
            refine aw_iload_n dX1_takeObjects_96 2 rfl ?_
            refine aw_iload dX1_takeObjects_97 1 rfl ?_
            refine aw_if_eq 108 dX1_takeObjects_99 (by decide) (fun c6 => ?_) (fun c6 => absurd rfl c6)
            refine aw_aload_n dX1_takeObjects_108 4 rfl ?_
            refine aw_getL dX1_takeObjects_109 fl_X1_27 ((hD.v vp.1 vp.2).1.s 8 (by decide)) ((hD.v vp.1 vp.2).1.n 8 (by decide)) ?_
            refine aw_toplE (vpM_v A vp.1 vp.2) ?_
            refine aw_callVv [.int (nI j), .int (nI (B p)), .long vp.1] [] (sp_X2_fill (d := d - 1) (by omega) j (nI (B p)) vp.1 ((hD.v vp.1 vp.2).1.rrow (t := t) ht12) (by omega)) dX1_takeObjects_112 ml_X1_96 im_X2_fill ((hD.v vp.1 vp.2).1.rrow (t := t) ht12).1 ((hD.v vp.1 vp.2).1.rrow (t := t) ht12).n0 rfl rfl (dl1 (d := d) (by omega)) rfl rfl (Nat.le_of_ble_eq_true rfl) rfl rfl (Nat.zero_le _) (Nat.zero_le _) ?_
            refine aw_iincN j 1 [(2, .int (nI (j + 1))), (5, .int (nI R.1)), (4, .int 0), (3, .int (nI (B p))), (0, .ref 8), (1, .ref (10 + 3 * t))] dX1_takeObjects_115 3 rfl rfl rfl (Nat.le_of_ble_eq_true rfl) rfl ?_
            refine aw_goto 2 dX1_takeObjects_118 (by decide) ?_
            refine aw_sub [0, 4, 5] rfl ?_
            exact q
    · rw [if_neg (fun z => cl z.1)]
      have hms := ms_m1 k hk14 hk8
      refine aw_iload_n dX1_takeObjects_2 0 rfl ?_
      refine aw_aload_n dX1_takeObjects_3 2 rfl ?_
      refine aw_getI dX1_takeObjects_4 fl_X1_83 (hD.1.rrow (t := t) ht12).1 (hD.1.rrow (t := t) ht12).n0 ?_
      refine aw_topE hz ?_
      refine aw_icmp_geN j (j + (n + 1)) 121 dX1_takeObjects_7 (by decide) rfl rfl (by omega) (by omega) (fun c1 => absurd c1 (by omega)) (fun c1 => ?_)
      refine aw_aload_n dX1_takeObjects_10 1 rfl ?_
      refine aw_getR (b := so) dX1_takeObjects_11 fl_X1_31 rfl (hD.1.s 8 (by decide)) (hD.1.n 8 (by decide)) hD.2.1 ?_
      refine aw_aload_n dX1_takeObjects_14 1 rfl ?_
      refine aw_getI dX1_takeObjects_15 fl_X1_21 (hD.1.s 8 (by decide)) (hD.1.n 8 (by decide)) ?_
      refine aw_topE hC.2.2.1 ?_
      refine aw_callVi [.int (nI p)] [] (sp_atn (d := d - 1) hD cl (by omega)) dX1_takeObjects_18 ml_X1_36 im_X3_at hD.2.2.1.1 hD.2.2.1.n0 rfl rfl (dl1 (d := d) (by omega)) rfl rfl (Nat.le_of_ble_eq_true rfl) rfl rfl (Nat.zero_le _) (Nat.zero_le _) ?_
      refine aw_istore_n [(3, .int (-1)), (2, .int (nI j)), (0, .ref 8), (1, .ref (10 + 3 * t))] dX1_takeObjects_21 (Nat.le_of_ble_eq_true rfl) rfl ?_
      refine aw_aload_n dX1_takeObjects_22 3 rfl ?_
      refine aw_getI dX1_takeObjects_23 fl_X1_86 (hD.1.rrow (t := t) ht12).1 (hD.1.rrow (t := t) ht12).n0 ?_
      refine aw_topE hk ?_
      refine aw_iload_n dX1_takeObjects_26 0 rfl ?_
      refine aw_callSi [.int (nI k), .int (-1)] [] (sp_X1_mayStand (d := d - 1) (by omega) (nI k) (-1)) dX1_takeObjects_27 ml_X1_89 sm_X1_mayStand rfl (dl1 (d := d) (by omega)) rfl rfl (Nat.le_of_ble_eq_true rfl) rfl rfl (Nat.zero_le _) (Nat.zero_le _) ?_
      refine aw_if_ne 42 dX1_takeObjects_30 (by decide) (fun c2 => absurd (bz_0.mpr hms) c2) (fun c2 => ?_)
      refine aw_aload_n dX1_takeObjects_33 2 rfl ?_
      refine aw_aload_n dX1_takeObjects_34 2 rfl ?_
      refine aw_getI dX1_takeObjects_35 fl_X1_21 (hD.1.s 8 (by decide)) (hD.1.n 8 (by decide)) ?_
      refine aw_topE hC.2.2.1 ?_
      refine aw_callVi [.int (nI p)] [] (sp_X1_failAt (d := d - 1) (nI p) hD.1) dX1_takeObjects_38 ml_X1_49 im_X1_failAt (hD.1.s 8 (by decide)) (hD.1.n 8 (by decide)) rfl rfl (dl1 (d := d) (by omega)) rfl rfl (Nat.le_of_ble_eq_true rfl) rfl rfl (Nat.zero_le _) (Nat.zero_le _) ?_
      refine aw_zret dX1_takeObjects_41 rfl rfl (Nat.zero_le _) (Nat.zero_le _) ?_
      exact ⟨rfl, hC.1.i 3 (nI p), mI_stI_v _ _ _ _⟩
theorem sp_tO {d : Nat} (hd : 5 ≤ d) {M0 : xM} {so N : Nat} {B : Nat → Nat} {L k t : Nat} {g : Nat} {F : Nat → Nat → pR → pP} (hS : RdS M0 so N B L) (hk8 : 8 ≤ k) (hk14 : k < 14) (hI : ∀ b p R pr, F b p R = .ok pr → p < L → rIn R pr.2 ∧ pr.1 ≤ L) (hA : ∀ p (R : pR) (A : xM), CS M0 p R A → p < L → 12 ≤ R.1 + g → sX1_isArrayTag (nI (B p)) = true → Sp (fX1_takeArray (d - 1)) [.ref 8, .int (nI (B p))] A (PR M0 (F (B p) p R))) {n p : Nat} {R : pR} {A : xM} (hC : CS M0 p R A) (hpl : p ≤ L) (ht : t < R.1) (hkt : rK R t = k) (hj : rZ R t = n) (hg : 12 ≤ R.1 + g) : Sp (fX1_takeObjects d) [.ref 8, .ref (10 + 3 * t)] A (PR M0 (pObj B L F k t n 0 p R)) := by
  refine Sp.of pn_X1 (Nat.le_of_ble_eq_true rfl) (fun h => Bool.noConfusion h) ?_
  refine aw_iconst (v := 0) dX1_takeObjects_0 (by decide) ?_
  refine aw_istore_n [(2, .int 0), (0, .ref 8), (1, .ref (10 + 3 * t))] dX1_takeObjects_1 (Nat.le_of_ble_eq_true rfl) rfl ?_
  exact lp_to hd hS hk8 hk14 hI hA n 0 p R A hC hpl ht hkt (by omega) hg
