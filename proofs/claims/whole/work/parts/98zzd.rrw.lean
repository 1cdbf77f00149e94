-- THE REFERENCE READS ROWS: its state
def vR (w : Nat) (v : Int64) : Int64 := if w = 10 then lN (12 + lC v) else v
def RSr (R : pR) (A : xM) : Prop := R.1 ≤ 12 ∧ ∀ n, n < R.1 → rK R n < 16 ∧ rZ R n ≤ 12 ∧ mI A 1 (12 + n) = nI (rK R n) ∧ mI A 2 (12 + n) = nI (rZ R n) ∧ (14 ≤ rK R n → mL A 3 (12 + n) = rV R n 0) ∧ ∀ j, j < rZ R n → mI A 4 (12 * (12 + n) + j) = nI (rW R n j) ∧ mL A 5 (12 * (12 + n) + j) = vR (rW R n j) (rV R n j)
def RFm (M0 A : xM) : Prop := sT M0 A ∧ (∀ x, x ≠ 0 → x ≠ 1 → x ≠ 2 → x ≠ 4 → x ≠ 12 → x ≠ 13 → mI A x = mI M0 x) ∧ (∀ x, x ≠ 3 → x ≠ 5 → mL A x = mL M0 x) ∧ (∀ i, i < 12 → mI A 1 i = mI M0 1 i ∧ mI A 2 i = mI M0 2 i ∧ mL A 3 i = mL M0 3 i) ∧ (∀ i, i < 144 → mI A 4 i = mI M0 4 i ∧ mL A 5 i = mL M0 5 i) ∧ (∀ k, k ≠ 19 → k ≠ 24 → k ≠ 25 → k ≠ 26 → mI A 0 k = mI M0 0 k) ∧ LenR A
def RS (M0 : xM) (p : Nat) (R : pR) (A : xM) : Prop := RFm M0 A ∧ mI A 0 24 = nI p ∧ mI A 0 25 = -1 ∧ mI A 0 26 = nI R.1 ∧ RSr R A
def SK (A0 A : xM) : Prop := mI A 0 19 = mI A0 0 19 ∧ mI A 12 = mI A0 12 ∧ mI A 13 = mI A0 13
def QR (M0 A0 : xM) (q : pP) : Option Value → xM → Prop := fun r A => r = none ∧ match q with
  | .ok pr => RS M0 pr.1 pr.2 A ∧ SK A0 A
  | .error f => RFm M0 A ∧ mI A 0 25 = nI f
theorem SK.rf (A : xM) : SK A A := ⟨rfl, rfl, rfl⟩
theorem SK.t {A B C : xM} (h : SK A B) (h' : SK B C) : SK A C := ⟨h'.1.trans h.1, h'.2.1.trans h.2.1, h'.2.2.trans h.2.2⟩
theorem RFm.D {M0 A : xM} {B : Nat → Nat} {L : Nat} (h : RFm M0 A) (hS : RfS M0 B L) : RfS A B L := hS.k h.1 (h.2.2.2.2.2.1 23 (by decide) (by decide) (by decide) (by decide)) (h.2.1 14 (by decide) (by decide) (by decide) (by decide) (by decide) (by decide))
theorem RFm.rf {M0 : xM} (h : LenR M0) : RFm M0 M0 := ⟨sT.rf M0, fun _ _ _ _ _ _ _ => rfl, fun _ _ _ => rfl, fun _ _ => ⟨rfl, rfl, rfl⟩, fun _ _ => ⟨rfl, rfl⟩, fun _ _ _ _ _ => rfl, h⟩
theorem RFm.i {M0 A : xM} (h : RFm M0 A) (k : Nat) (x : Int32) (hk : k = 19 ∨ k = 24 ∨ k = 25 ∨ k = 26) : RFm M0 (stI A 0 k x) := by
  obtain ⟨h1, h2, h3, h4, h5, h6, h7⟩ := h
  refine ⟨h1.tr ⟨rfl, rfl, rfl⟩, fun y a b c d e f => (mI_stI_c _ _ _ a).trans (h2 y a b c d e f), h3, fun i hi => ?_, fun i hi => ?_, fun j a b c d => (mI_stI_o _ _ _ _ (by omega)).trans (h6 j a b c d), h7.k (mI_stI_c _ _ _ (by decide))⟩
  · rw [mI_stI_c _ _ _ (by decide), mI_stI_c _ _ _ (by decide)]; exact h4 i hi
  · rw [mI_stI_c _ _ _ (by decide)]; exact h5 i hi
theorem RFm.e {M0 A A' : xM} {f : Nat} (h : RFm M0 A) (h' : FE A f A') : RFm M0 A' := by
  obtain ⟨h1, h2, h3, h4, h5, h6, h7⟩ := h
  obtain ⟨e1, e2, e3, e4, e5⟩ := h'
  refine ⟨h1.tr e1, fun y a b c d e f => (e3 y a).trans (h2 y a b c d e f), fun y a b => by rw [e2]; exact h3 y a b, fun i hi => ?_, fun i hi => ?_, fun j a b c d => (e4 j b c).trans (h6 j a b c d), h7.k (e3 2 (by decide))⟩
  · rw [e3 1 (by decide), e3 2 (by decide), e2]; exact h4 i hi
  · rw [e3 4 (by decide), e2]; exact h5 i hi
theorem RFm.c {M0 A : xM} (h : RFm M0 A) {c : Nat} (hc : 144 ≤ c) (v : Int64) : RFm M0 (stL A 5 c v) := by
  obtain ⟨h1, h2, h3, h4, h5, h6, h7⟩ := h
  refine ⟨h1.tr ⟨rfl, rfl, rfl⟩, h2, fun y a b => (mL_stL_c _ _ _ b).trans (h3 y a b), fun i hi => ⟨(h4 i hi).1, (h4 i hi).2.1, (congrFun (mL_stL_c _ _ _ (by decide)) i).trans (h4 i hi).2.2⟩, fun i hi => ⟨(h5 i hi).1, ?_⟩, h6, h7⟩
  exact (xup_k A.2.1 5 v (by omega) 5).trans (h5 i hi).2
theorem RFm.w {M0 A : xM} (h : RFm M0 A) {c : Nat} (hc : 144 ≤ c) (x : Int32) : RFm M0 (stI A 4 c x) := by
  obtain ⟨h1, h2, h3, h4, h5, h6, h7⟩ := h
  refine ⟨h1.tr ⟨rfl, rfl, rfl⟩, fun y a b c d e f => (mI_stI_c _ _ _ d).trans (h2 y a b c d e f), h3, fun i hi => ?_, fun i hi => ⟨(mI_stI_o _ _ _ _ (by omega)).trans (h5 i hi).1, (h5 i hi).2⟩, fun j a b c d => (congrFun (mI_stI_c _ _ _ (by decide)) j).trans (h6 j a b c d), h7.k (mI_stI_c _ _ _ (by decide))⟩
  rw [mI_stI_c _ _ _ (by decide), mI_stI_c _ _ _ (by decide)]; exact h4 i hi
theorem RS.p {M0 A : xM} {p : Nat} {R : pR} (h : RS M0 p R A) (q : Nat) : RS M0 q R (stI A 0 24 (nI q)) := by
  obtain ⟨h1, h2, h3, h4, h5, h6⟩ := h
  refine ⟨h1.i 24 _ (by decide), mI_stI_v _ _ _ _, (mI_stI_o _ _ _ _ (by decide)).trans h3, (mI_stI_o _ _ _ _ (by decide)).trans h4, h5, fun n hn => ?_⟩
  rw [mI_stI_c _ _ _ (show (1 : Nat) ≠ 0 by decide), mI_stI_c _ _ _ (show (2 : Nat) ≠ 0 by decide), mI_stI_c _ _ _ (show (4 : Nat) ≠ 0 by decide)]
  exact h6 n hn
theorem RSr_set {A : xM} {R : pR} (h : RSr R A) {t j w : Nat} (ht : t < R.1) (hj : j < 12) {A' : xM} {v : Int64} (h14 : rK R t < 14) (e1 : mI A' 1 = mI A 1) (e2 : mI A' 2 = mI A 2) (e3 : mL A' 3 = mL A 3) (e4 : ∀ i, i ≠ 12 * (12 + t) + j → mI A' 4 i = mI A 4 i) (e5 : ∀ i, i ≠ 12 * (12 + t) + j → mL A' 5 i = mL A 5 i) (e6 : mI A' 4 (12 * (12 + t) + j) = nI w) (e7 : mL A' 5 (12 * (12 + t) + j) = vR w v) : RSr (rSet R t j w v) A' := by
  refine ⟨h.1, fun n hn => ?_⟩
  obtain ⟨a1, a2, a3, a4, a5, a6⟩ := h.2 n hn
  refine ⟨a1, a2, by rw [e1]; exact a3, by rw [e2]; exact a4, fun z => ?_, fun i hi => ?_⟩
  · rw [e3]
    by_cases c : n = t
    · subst c; exact absurd (show 14 ≤ rK R n from z) (by omega)
    · rw [show rV (rSet R t j w v) n = rV R n from xup_n _ _ _ c]; exact a5 z
  · have hz : rZ R n ≤ 12 := a2
    have hi' : i < rZ R n := hi
    by_cases c : n = t ∧ i = j
    · obtain ⟨rfl, rfl⟩ := c
      rw [show rW (rSet R n i w v) n i = w from xup_s _ _ _ _, show rV (rSet R n i w v) n i = v from xup_s _ _ _ _]
      exact ⟨e6, e7⟩
    · have hne : 12 * (12 + n) + i ≠ 12 * (12 + t) + j := by omega
      have x1 : rW (rSet R t j w v) n i = rW R n i := by
        show xup (rW R) t j w n i = rW R n i
        unfold xup
        by_cases q : n = t
        · rw [if_pos q, if_neg (fun z => c ⟨q, z⟩)]
        · rw [if_neg q]
      have x2 : rV (rSet R t j w v) n i = rV R n i := by
        show xup (rV R) t j v n i = rV R n i
        unfold xup
        by_cases q : n = t
        · rw [if_pos q, if_neg (fun z => c ⟨q, z⟩)]
        · rw [if_neg q]
      rw [x1, x2, e4 _ hne, e5 _ hne]
      exact a6 i hi'
theorem RS.num {M0 A : xM} {p : Nat} {R : pR} (h : RS M0 p R A) {t j k : Nat} (ht : t < R.1) (hj : j < 12) (hz : j < rZ R t) (hk : rK R t < 14) (hw : rW R t j = k) (hk10 : k ≠ 10) (v : Int64) : RS M0 p (rSet R t j k v) (stL A 5 (12 * (12 + t) + j) v) := by
  obtain ⟨h1, h2, h3, h4, h5⟩ := h
  refine ⟨h1.c (by omega) v, h2, h3, h4, RSr_set h5 ht hj hk rfl rfl (mL_stL_c _ _ _ (by decide)) (fun _ _ => rfl) (fun i hi => xup_k A.2.1 5 v hi 5) ?_ ?_⟩
  · rw [mI_stL_c, ← hw]; exact ((h5.2 t ht).2.2.2.2.2 j hz).1
  · rw [show vR k v = v from if_neg hk10]; exact xup_s A.2.1 5 _ v
theorem SK_l (A : xM) (c : Nat) (v : Int64) : SK A (stL A 5 c v) := ⟨rfl, rfl, rfl⟩
theorem SK_i (A : xM) {k : Nat} (x : Int32) (h : k ≠ 19) : SK A (stI A 0 k x) := ⟨mI_stI_o _ _ _ _ (Ne.symm h), mI_stI_c _ _ _ (by decide), mI_stI_c _ _ _ (by decide)⟩
theorem SK_w (A : xM) (c : Nat) (x : Int32) : SK A (stI A 4 c x) := ⟨congrFun (mI_stI_c _ _ _ (by decide)) 19, mI_stI_c _ _ _ (by decide), mI_stI_c _ _ _ (by decide)⟩
theorem QR_s {M0 A0 A : xM} {q : pP} {r : Option Value} {C : xM} (hs : SK A0 A) (h : QR M0 A q r C) : QR M0 A0 q r C := by
  cases q with
  | error f => exact h
  | ok pr => exact ⟨h.1, h.2.1, hs.t h.2.2⟩
theorem lp_rf {d : Nat} (hd : 3 ≤ d) {M0 : xM} {B : Nat → Nat} {L k t : Nat} (hS : RfS M0 B L) (hk8 : k < 8) : ∀ n j p (R : pR) (A : xM), RS M0 p R A → p ≤ L → t < R.1 → rK R t = k → rZ R t = j + n → (∀ i, rW R t i = k) → AW (fX6_readsFlat d) 2 [(2, .int (nI j)), (0, .ref 0), (1, .int (nI (12 + t)))] [] A 0 0 (QR M0 A (pFlat B L k t n j p R)) := by
  intro n
  induction n with
  | zero =>
    intro j p R A hC hpl ht hkt hj hW
    have hL2 := hS.2.1
    have hD := hC.1.D hS
    have hT := hD.1
    have ht12 : t < 12 := by have := hC.2.2.2.2.1; omega
    obtain ⟨-, zz, a3, a4, -, -⟩ := hC.2.2.2.2.2 t ht
    have hk : mI A 1 (12 + t) = nI k := by rw [a3, hkt]
    have hz : mI A 2 (12 + t) = nI (j + 0) := by rw [a4, hj]
    rw [hj] at zz
    refine aw_iload_n dX6_readsFlat_2 0 rfl ?_
    refine aw_aload_n dX6_readsFlat_3 1 rfl ?_
    refine aw_getR (b := 2) dX6_readsFlat_4 fl_X6_13 rfl (hT.s 0 (by decide)) (hT.n 0 (by decide)) (hT.r 1) ?_
    refine aw_iload_n dX6_readsFlat_7 2 rfl ?_
    refine aw_ialdN (12 + t) dX6_readsFlat_8 (hT.s 2 (by decide)) (hT.n 2 (by decide)) rfl (by omega) (by first | decide | omega) ?_
    refine aw_topE hz ?_
    refine aw_icmp_geN j (j + 0) 46 dX6_readsFlat_9 (by decide) rfl rfl (by omega) (by omega) (fun c1 => ?_) (fun c1 => absurd (by omega) c1)
    refine aw_ret dX6_readsFlat_46 rfl (Nat.zero_le _) (Nat.zero_le _) ?_
    exact ⟨rfl, hC, SK.rf A⟩
  | succ n ih =>
    intro j p R A hC hpl ht hkt hj hW
    have hL2 := hS.2.1
    have hD := hC.1.D hS
    have hT := hD.1
    have ht12 : t < 12 := by have := hC.2.2.2.2.1; omega
    obtain ⟨-, zz, a3, a4, -, -⟩ := hC.2.2.2.2.2 t ht
    have hk : mI A 1 (12 + t) = nI k := by rw [a3, hkt]
    have hz : mI A 2 (12 + t) = nI (j + (n + 1)) := by rw [a4, hj]
    rw [hj] at zz
    have hq := sp_rn (d := d - 1) (k := k) (by omega) hD hC.2.1 hpl hC.2.2.1 hk8
    unfold pFlat
    cases e : pNum B L k p with
    | error f =>
      rw [e] at hq
      have hfl : f < 2 ^ 31 := by
        unfold pNum at e
        split at e
        · split at e
          · cases e
          · injection e with e; omega
        · injection e with e; omega
      refine aw_iload_n dX6_readsFlat_2 0 rfl ?_
      refine aw_aload_n dX6_readsFlat_3 1 rfl ?_
      refine aw_getR (b := 2) dX6_readsFlat_4 fl_X6_13 rfl (hT.s 0 (by decide)) (hT.n 0 (by decide)) (hT.r 1) ?_
      refine aw_iload_n dX6_readsFlat_7 2 rfl ?_
      refine aw_ialdN (12 + t) dX6_readsFlat_8 (hT.s 2 (by decide)) (hT.n 2 (by decide)) rfl (by omega) (by first | decide | omega) ?_
      refine aw_topE hz ?_
      refine aw_icmp_geN j (j + (n + 1)) 46 dX6_readsFlat_9 (by decide) rfl rfl (by omega) (by omega) (fun c1 => absurd c1 (by omega)) (fun c1 => ?_)
      refine aw_aload_n dX6_readsFlat_12 1 rfl ?_
      refine aw_getI dX6_readsFlat_13 fl_X6_283 (hT.s 0 (by decide)) (hT.n 0 (by decide)) ?_
      refine aw_topE hC.2.2.1 ?_
      refine aw_if_ge 46 dX6_readsFlat_16 (by decide) (fun c2 => absurd c2 (by decide)) (fun c2 => ?_)
      refine aw_aload_n dX6_readsFlat_19 1 rfl ?_
      refine aw_getR (b := 5) dX6_readsFlat_20 fl_X6_23 rfl (hT.s 0 (by decide)) (hT.n 0 (by decide)) (hT.r 4) ?_
      refine aw_bipush (v := 12) dX6_readsFlat_23 (by decide) ?_
      refine aw_iload_n dX6_readsFlat_25 2 rfl ?_
      refine aw_imulN 12 (12 + t) dX6_readsFlat_26 rfl rfl ?_
      refine aw_iload_n dX6_readsFlat_27 0 rfl ?_
      refine aw_iaddN (12 * (12 + t)) j dX6_readsFlat_28 rfl rfl ?_
      refine aw_aload_n dX6_readsFlat_29 1 rfl ?_
      refine aw_aload_n dX6_readsFlat_30 1 rfl ?_
      refine aw_getR (b := 1) dX6_readsFlat_31 fl_X6_7 rfl (hT.s 0 (by decide)) (hT.n 0 (by decide)) (hT.r 0) ?_
      refine aw_iload_n dX6_readsFlat_34 2 rfl ?_
      refine aw_ialdN (12 + t) dX6_readsFlat_35 (hT.s 1 (by decide)) (hT.n 1 (by decide)) rfl (by omega) (by first | decide | omega) ?_
      refine aw_topE hk ?_
      refine aw_callVx [.int (nI k)] [.int (nI ((12 * (12 + t)) + j)), .ref 5] hq dX6_readsFlat_36 ml_X6_316 im_X6_readsNumber (hT.s 0 (by decide)) (hT.n 0 (by decide)) rfl rfl (dl1 (d := d) (by omega)) rfl rfl (Nat.le_of_ble_eq_true rfl) rfl rfl (Nat.zero_le _) (Nat.zero_le _) (fun r A1 hA1 => ?_)
      obtain ⟨⟨y, rfl⟩, hA1⟩ := hA1
      refine aw_cons ?_
      have hT1 := hA1.1.TR hT
      have hz1 : mI A1 2 (12 + t) = nI (j + (n + 1)) := (congrFun (hA1.2.2.1 2 (by decide)) (12 + t)).trans hz
      have hf1 := hA1.2.2.2.2
      refine aw_lastN ((12 * (12 + t)) + j) dX6_readsFlat_39 (hT1.s 5 (by decide)) (hT1.n 5 (by decide)) rfl (by omega) (by first | decide | omega) ?_
      refine aw_iincN j 1 [(2, .int (nI (j + 1))), (0, .ref 0), (1, .int (nI (12 + t)))] dX6_readsFlat_40 0 rfl rfl rfl (Nat.le_of_ble_eq_true rfl) rfl ?_
      refine aw_goto 2 dX6_readsFlat_43 (by decide) ?_
      refine aw_iload_n dX6_readsFlat_2 0 rfl ?_
      refine aw_aload_n dX6_readsFlat_3 1 rfl ?_
      refine aw_getR (b := 2) dX6_readsFlat_4 fl_X6_13 rfl (((sT.L A1 5 ((12 * (12 + t)) + j) y).TR hT1).s 0 (by decide)) (((sT.L A1 5 ((12 * (12 + t)) + j) y).TR hT1).n 0 (by decide)) (((sT.L A1 5 ((12 * (12 + t)) + j) y).TR hT1).r 1) ?_
      refine aw_iload_n dX6_readsFlat_7 2 rfl ?_
      refine aw_ialdN (12 + t) dX6_readsFlat_8 (((sT.L A1 5 ((12 * (12 + t)) + j) y).TR hT1).s 2 (by decide)) (((sT.L A1 5 ((12 * (12 + t)) + j) y).TR hT1).n 2 (by decide)) rfl (by omega) (by first | decide | omega) ?_
      refine aw_topE hz1 ?_
      refine aw_icmp_geN (j + 1) (j + (n + 1)) 46 dX6_readsFlat_9 (by decide) rfl rfl (by omega) (by omega) (fun c3 => ?_) (fun c3 => ?_)
      · refine aw_ret dX6_readsFlat_46 rfl (Nat.zero_le _) (Nat.zero_le _) ?_
        exact ⟨rfl, (hC.1.e hA1).c (by omega) y, hf1⟩
      · refine aw_aload_n dX6_readsFlat_12 1 rfl ?_
        refine aw_getI dX6_readsFlat_13 fl_X6_283 (((sT.L A1 5 ((12 * (12 + t)) + j) y).TR hT1).s 0 (by decide)) (((sT.L A1 5 ((12 * (12 + t)) + j) y).TR hT1).n 0 (by decide)) ?_
        refine aw_topE hf1 ?_
        refine aw_if_ge 46 dX6_readsFlat_16 (by decide) (fun c4 => ?_) (fun c4 => absurd (Int32.not_lt.mp (nI_nn hfl)) c4)
        refine aw_ret dX6_readsFlat_46 rfl (Nat.zero_le _) (Nat.zero_le _) ?_
        exact ⟨rfl, (hC.1.e hA1).c (by omega) y, hf1⟩
    | ok vp =>
      rw [e] at hq
      have q := ih (j + 1) vp.2 (rSet R t j k vp.1) _ ((hC.p vp.2).num (k := k) ht (by omega) (by omega) (by omega) (hW j) (by omega) vp.1) (pNum_le e) ht hkt (by show rZ R t = _; omega) (fun i => by show xup (rW R) t j k t i = k; unfold xup; rw [if_pos rfl, hW i]; split <;> rfl)
      have q := aw_post (fun r C h => QR_s (SK.t (SK_i A (nI vp.2) (by decide)) (SK_l (stI A 0 24 (nI vp.2)) (12 * (12 + t) + j) vp.1)) h) q
      refine aw_iload_n dX6_readsFlat_2 0 rfl ?_
      refine aw_aload_n dX6_readsFlat_3 1 rfl ?_
      refine aw_getR (b := 2) dX6_readsFlat_4 fl_X6_13 rfl (hT.s 0 (by decide)) (hT.n 0 (by decide)) (hT.r 1) ?_
      refine aw_iload_n dX6_readsFlat_7 2 rfl ?_
      refine aw_ialdN (12 + t) dX6_readsFlat_8 (hT.s 2 (by decide)) (hT.n 2 (by decide)) rfl (by omega) (by first | decide | omega) ?_
      refine aw_topE hz ?_
      refine aw_icmp_geN j (j + (n + 1)) 46 dX6_readsFlat_9 (by decide) rfl rfl (by omega) (by omega) (fun c1 => absurd c1 (by omega)) (fun c1 => ?_)
      refine aw_aload_n dX6_readsFlat_12 1 rfl ?_
      refine aw_getI dX6_readsFlat_13 fl_X6_283 (hT.s 0 (by decide)) (hT.n 0 (by decide)) ?_
      refine aw_topE hC.2.2.1 ?_
      refine aw_if_ge 46 dX6_readsFlat_16 (by decide) (fun c2 => absurd c2 (by decide)) (fun c2 => ?_)
      refine aw_aload_n dX6_readsFlat_19 1 rfl ?_
      refine aw_getR (b := 5) dX6_readsFlat_20 fl_X6_23 rfl (hT.s 0 (by decide)) (hT.n 0 (by decide)) (hT.r 4) ?_
      refine aw_bipush (v := 12) dX6_readsFlat_23 (by decide) ?_
      refine aw_iload_n dX6_readsFlat_25 2 rfl ?_
      refine aw_imulN 12 (12 + t) dX6_readsFlat_26 rfl rfl ?_
      refine aw_iload_n dX6_readsFlat_27 0 rfl ?_
      refine aw_iaddN (12 * (12 + t)) j dX6_readsFlat_28 rfl rfl ?_
      refine aw_aload_n dX6_readsFlat_29 1 rfl ?_
      refine aw_aload_n dX6_readsFlat_30 1 rfl ?_
      refine aw_getR (b := 1) dX6_readsFlat_31 fl_X6_7 rfl (hT.s 0 (by decide)) (hT.n 0 (by decide)) (hT.r 0) ?_
      refine aw_iload_n dX6_readsFlat_34 2 rfl ?_
      refine aw_ialdN (12 + t) dX6_readsFlat_35 (hT.s 1 (by decide)) (hT.n 1 (by decide)) rfl (by omega) (by first | decide | omega) ?_
      refine aw_topE hk ?_
      refine aw_callVl [.int (nI k)] [.int (nI ((12 * (12 + t)) + j)), .ref 5] hq dX6_readsFlat_36 ml_X6_316 im_X6_readsNumber (hT.s 0 (by decide)) (hT.n 0 (by decide)) rfl rfl (dl1 (d := d) (by omega)) rfl rfl (Nat.le_of_ble_eq_true rfl) rfl rfl (Nat.zero_le _) (Nat.zero_le _) ?_
      refine aw_lastN ((12 * (12 + t)) + j) dX6_readsFlat_39 (((sT.I A 0 24 (nI vp.2)).TR hT).s 5 (by decide)) (((sT.I A 0 24 (nI vp.2)).TR hT).n 5 (by decide)) rfl (by omega) (by first | decide | omega) ?_
      refine aw_iincN j 1 [(2, .int (nI (j + 1))), (0, .ref 0), (1, .int (nI (12 + t)))] dX6_readsFlat_40 0 rfl rfl rfl (Nat.le_of_ble_eq_true rfl) rfl ?_
      refine aw_goto 2 dX6_readsFlat_43 (by decide) ?_
      exact q
