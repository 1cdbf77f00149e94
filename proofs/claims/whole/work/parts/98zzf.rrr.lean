-- THE REFERENCE READS RUNS; ROWS OF NUMBERS
theorem lp_rr {d : Nat} (hd : 3 ≤ d) {M0 : xM} {B : Nat → Nat} {L k t : Nat} (hS : RfS M0 B L) (hk8 : k < 8) : ∀ n j (v0 : Int64) p (R : pR) (A : xM), RS M0 p R A → p ≤ L → t < R.1 → rK R t = k → rZ R t = j + n → (∀ i, rW R t i = k) → AW (fX6_readsRuns d) 2 [(2, .int (nI j)), (0, .ref 0), (1, .int (nI (12 + t)))] [] A 0 0 (QR M0 A (pRuns B L k t n j 0 v0 p R)) := by
  intro n
  induction n using Nat.strongRecOn with
  | _ n ih =>
  cases n with
  | zero =>
    intro j v0 p R A hC hpl ht hkt hj hW
    have hL2 := hS.2.1
    have hD := hC.1.D hS
    have hT := hD.1
    have ht12 : t < 12 := by have := hC.2.2.2.2.1; omega
    obtain ⟨-, zz, a3, a4, -, -⟩ := hC.2.2.2.2.2 t ht
    have hk : mI A 1 (12 + t) = nI k := by rw [a3, hkt]
    have hz : mI A 2 (12 + t) = nI (j + 0) := by rw [a4, hj]
    rw [hj] at zz
    rw [show pRuns B L k t 0 j 0 v0 p R = .ok (p, R) by unfold pRuns; rfl]
    refine aw_iload_n dX6_readsRuns_2 0 rfl ?_
    refine aw_aload_n dX6_readsRuns_3 1 rfl ?_
    refine aw_getR (b := 2) dX6_readsRuns_4 fl_X6_13 rfl (hT.s 0 (by decide)) (hT.n 0 (by decide)) (hT.r 1) ?_
    refine aw_iload_n dX6_readsRuns_7 2 rfl ?_
    refine aw_ialdN (12 + t) dX6_readsRuns_8 (hT.s 2 (by decide)) (hT.n 2 (by decide)) rfl (by omega) (by first | decide | omega) ?_
    refine aw_topE hz ?_
    refine aw_icmp_geN j (j + 0) 87 dX6_readsRuns_9 (by decide) rfl rfl (by omega) (by omega) (fun c1 => ?_) (fun c1 => absurd (by omega) c1)
    refine aw_ret dX6_readsRuns_87 rfl (Nat.zero_le _) (Nat.zero_le _) ?_
    exact ⟨rfl, hC, SK.rf A⟩
  | succ n =>
    intro j v0 p R A hC hpl ht hkt hj hW
    have hL2 := hS.2.1
    have hD := hC.1.D hS
    have hT := hD.1
    have ht12 : t < 12 := by have := hC.2.2.2.2.1; omega
    obtain ⟨-, zz, a3, a4, -, -⟩ := hC.2.2.2.2.2 t ht
    have hk : mI A 1 (12 + t) = nI k := by rw [a3, hkt]
    have hz : mI A 2 (12 + t) = nI (j + (n + 1)) := by rw [a4, hj]
    rw [hj] at zz
    rw [show pRuns B L k t (n + 1) j 0 v0 p R = (if p < L ∧ 1 ≤ B p ∧ B p ≤ n + 1 then (match pNum B L k (p + 1) with
        | .error f => .error f
        | .ok vp => pRuns B L k t n (j + 1) (B p - 1) vp.1 vp.2 (rSet R t j k vp.1)) else .error p) from rfl]
    by_cases hc : p < L ∧ 1 ≤ B p ∧ B p ≤ n + 1
    · rw [if_pos hc]
      have hb := (hS.2.2.2 p hc.1).2
      have hc' : p < L ∧ 1 ≤ B p ∧ B p ≤ j + (n + 1) - j := by omega
      have hD1 := hD.i 24 (nI (p + 1)) (by decide)
      have hf1 : mI (stI A 0 24 (nI (p + 1))) 0 25 = -1 := (mI_stI_o _ _ _ _ (by decide)).trans hC.2.2.1
      have hk1 : mI (stI A 0 24 (nI (p + 1))) 1 (12 + t) = nI k := (congrFun (mI_stI_c _ _ _ (by decide)) (12 + t)).trans hk
      have hq := (sp_rn (d := d - 1) (k := k) (by omega) hD1 (mI_stI_v _ _ _ _) (by omega) hf1 hk8).weaken (fun r A h => QL_a h)
      cases e : pNum B L k (p + 1) with
      | error f =>
        rw [e] at hq
        have hfl : f < 2 ^ 31 := by rw [pNum_e e]; omega
        refine aw_iload_n dX6_readsRuns_2 0 rfl ?_
        refine aw_aload_n dX6_readsRuns_3 1 rfl ?_
        refine aw_getR (b := 2) dX6_readsRuns_4 fl_X6_13 rfl (hT.s 0 (by decide)) (hT.n 0 (by decide)) (hT.r 1) ?_
        refine aw_iload_n dX6_readsRuns_7 2 rfl ?_
        refine aw_ialdN (12 + t) dX6_readsRuns_8 (hT.s 2 (by decide)) (hT.n 2 (by decide)) rfl (by omega) (by first | decide | omega) ?_
        refine aw_topE hz ?_
        refine aw_icmp_geN j (j + (n + 1)) 87 dX6_readsRuns_9 (by decide) rfl rfl (by omega) (by omega) (fun c1 => absurd c1 (by omega)) (fun c1 => ?_)
        refine aw_aload_n dX6_readsRuns_12 1 rfl ?_
        refine aw_getI dX6_readsRuns_13 fl_X6_283 (hT.s 0 (by decide)) (hT.n 0 (by decide)) ?_
        refine aw_topE hC.2.2.1 ?_
        refine aw_if_ge 87 dX6_readsRuns_16 (by decide) (fun c2 => absurd c2 (by decide)) (fun c2 => ?_)
        refine aw_aload_n dX6_readsRuns_19 1 rfl ?_
        refine aw_iconst (v := 1) dX6_readsRuns_20 (by decide) ?_
        refine aw_aload_n dX6_readsRuns_21 1 rfl ?_
        refine aw_getR (b := 2) dX6_readsRuns_22 fl_X6_13 rfl (hT.s 0 (by decide)) (hT.n 0 (by decide)) (hT.r 1) ?_
        refine aw_iload_n dX6_readsRuns_25 2 rfl ?_
        refine aw_ialdN (12 + t) dX6_readsRuns_26 (hT.s 2 (by decide)) (hT.n 2 (by decide)) rfl (by omega) (by first | decide | omega) ?_
        refine aw_topE hz ?_
        refine aw_iload_n dX6_readsRuns_27 0 rfl ?_
        refine aw_isubN (j + (n + 1)) j dX6_readsRuns_28 rfl rfl (by omega) ?_
        refine aw_callVi [.int 1, .int (nI ((j + (n + 1)) - j))] [] (sp_p1k (d := d - 1) (by omega) 1 (j + (n + 1) - j) hD hC.2.1 hpl hC.2.2.1 (by decide) (by omega) hc') dX6_readsRuns_29 ml_X6_320 im_X6_part1 (hT.s 0 (by decide)) (hT.n 0 (by decide)) rfl rfl (dl1 (d := d) (by omega)) rfl rfl (Nat.le_of_ble_eq_true rfl) rfl rfl (Nat.zero_le _) (Nat.zero_le _) ?_
        refine aw_istore_n [(3, .int (nI (B p))), (2, .int (nI j)), (0, .ref 0), (1, .int (nI (12 + t)))] dX6_readsRuns_32 (Nat.le_of_ble_eq_true rfl) rfl ?_
        refine aw_iload_n dX6_readsRuns_33 0 rfl ?_
        refine aw_if_ge 41 dX6_readsRuns_34 (by decide) (fun c3 => ?_) (fun c3 => absurd (Int32.not_lt.mp (nI_nn (by omega))) c3)
        refine aw_aload_n dX6_readsRuns_41 2 rfl ?_
        refine aw_aload_n dX6_readsRuns_42 2 rfl ?_
        refine aw_getR (b := 1) dX6_readsRuns_43 fl_X6_7 rfl (((sT.I A 0 24 (nI (p + 1))).TR hT).s 0 (by decide)) (((sT.I A 0 24 (nI (p + 1))).TR hT).n 0 (by decide)) (((sT.I A 0 24 (nI (p + 1))).TR hT).r 0) ?_
        refine aw_iload_n dX6_readsRuns_46 3 rfl ?_
        refine aw_ialdN (12 + t) dX6_readsRuns_47 (((sT.I A 0 24 (nI (p + 1))).TR hT).s 1 (by decide)) (((sT.I A 0 24 (nI (p + 1))).TR hT).n 1 (by decide)) rfl (by omega) (by first | decide | omega) ?_
        refine aw_topE hk1 ?_
        refine aw_callVx [.int (nI k)] [] hq dX6_readsRuns_48 ml_X6_316 im_X6_readsNumber (((sT.I A 0 24 (nI (p + 1))).TR hT).s 0 (by decide)) (((sT.I A 0 24 (nI (p + 1))).TR hT).n 0 (by decide)) rfl rfl (dl1 (d := d) (by omega)) rfl rfl (Nat.le_of_ble_eq_true rfl) rfl rfl (Nat.zero_le _) (Nat.zero_le _) (fun r A1 hA1 => ?_)
        obtain ⟨⟨y, rfl⟩, hA1⟩ := hA1
        refine aw_cons ?_
        have hT1 := hA1.1.TR hT
        refine aw_lstore [(4, .long y), (3, .int (nI (B p))), (2, .int (nI j)), (0, .ref 0), (1, .int (nI (12 + t)))] dX6_readsRuns_51 (Nat.le_of_ble_eq_true rfl) rfl ?_
        refine aw_iconst (v := 0) dX6_readsRuns_53 (by decide) ?_
        refine aw_istore [(6, .int 0), (4, .long y), (3, .int (nI (B p))), (2, .int (nI j)), (0, .ref 0), (1, .int (nI (12 + t)))] dX6_readsRuns_54 (Nat.le_of_ble_eq_true rfl) rfl ?_
        refine aw_eqM (flL_0 A1 5 (12 * (12 + t) + j) (fun _ => y)).symm ?_
        refine lp_rri (X := A1) (b := B p) (y := y) hT1 ht12 (by omega) ?_ (B p) 0 (by omega)
        refine aw_iload_n dX6_readsRuns_2 0 rfl ?_
        refine aw_aload_n dX6_readsRuns_3 1 rfl ?_
        refine aw_getR (b := 2) dX6_readsRuns_4 fl_X6_13 rfl (((sT.flL A1 5 (12 * (12 + t) + j) (B p) (fun _ => y)).TR hT1).s 0 (by decide)) (((sT.flL A1 5 (12 * (12 + t) + j) (B p) (fun _ => y)).TR hT1).n 0 (by decide)) (((sT.flL A1 5 (12 * (12 + t) + j) (B p) (fun _ => y)).TR hT1).r 1) ?_
        refine aw_iload_n dX6_readsRuns_7 2 rfl ?_
        refine aw_ialdN (12 + t) dX6_readsRuns_8 (((sT.flL A1 5 (12 * (12 + t) + j) (B p) (fun _ => y)).TR hT1).s 2 (by decide)) (((sT.flL A1 5 (12 * (12 + t) + j) (B p) (fun _ => y)).TR hT1).n 2 (by decide)) rfl (by omega) (by first | decide | omega) ?_
        refine aw_topE ((congrFun (hA1.2.2.1 2 (by decide)) (12 + t)).trans hz) ?_
        refine aw_icmp_geN (j + B p) (j + (n + 1)) 87 dX6_readsRuns_9 (by decide) rfl rfl (by omega) (by omega) (fun c1 => ?_) (fun c1 => ?_)
        · refine aw_ret dX6_readsRuns_87 rfl (Nat.zero_le _) (Nat.zero_le _) ?_
          exact ⟨rfl, (hC.1.e hA1).fl (by omega) _, hA1.2.2.2.2⟩
        · refine aw_aload_n dX6_readsRuns_12 1 rfl ?_
          refine aw_getI dX6_readsRuns_13 fl_X6_283 (((sT.flL A1 5 (12 * (12 + t) + j) (B p) (fun _ => y)).TR hT1).s 0 (by decide)) (((sT.flL A1 5 (12 * (12 + t) + j) (B p) (fun _ => y)).TR hT1).n 0 (by decide)) ?_
          refine aw_topE hA1.2.2.2.2 ?_
          refine aw_if_ge 87 dX6_readsRuns_16 (by decide) (fun c2 => ?_) (fun c2 => absurd (Int32.not_lt.mp (nI_nn hfl)) c2)
          refine aw_ret dX6_readsRuns_87 rfl (Nat.zero_le _) (Nat.zero_le _) ?_
          exact ⟨rfl, (hC.1.e hA1).fl (by omega) _, hA1.2.2.2.2⟩
      | ok vp =>
        rw [e] at hq
        obtain ⟨b0, eb⟩ : ∃ b0, B p = b0 + 1 := ⟨B p - 1, by omega⟩
        obtain ⟨m, em⟩ : ∃ m, n = m + b0 := ⟨n - b0, by omega⟩
        have hfil := RS.fil hk8 vp.1 (B p) j vp.2 R _ (hC.p vp.2) ht (by omega) hkt hW
        obtain ⟨g1, g2, g3, g4⟩ := rFil_s (k := k) (t := t) (v := vp.1) (B p) j R
        have q := ih m (by omega) (j + B p) vp.1 vp.2 _ _ hfil (pNum_le e) (by rw [g1]; exact ht) (by rw [g2]; exact hkt) (by rw [g3]; omega) (g4 hW)
        have q := aw_post (fun r C h => QR_s (SK.t (SK_i A (nI vp.2) (by decide)) (SK_f (stI A 0 24 (nI vp.2)) (12 * (12 + t) + j) (B p) (fun _ => vp.1))) h) q
        dsimp only
        rw [show pRuns B L k t n (j + 1) (B p - 1) vp.1 vp.2 (rSet R t j k vp.1) = pRuns B L k t m (j + B p) 0 vp.1 vp.2 (rFil k vp.1 t (B p) j R) by rw [eb, em, Nat.add_sub_cancel, pRuns_r, show j + 1 + b0 = j + (b0 + 1) by omega]; rfl]
        refine aw_iload_n dX6_readsRuns_2 0 rfl ?_
        refine aw_aload_n dX6_readsRuns_3 1 rfl ?_
        refine aw_getR (b := 2) dX6_readsRuns_4 fl_X6_13 rfl (hT.s 0 (by decide)) (hT.n 0 (by decide)) (hT.r 1) ?_
        refine aw_iload_n dX6_readsRuns_7 2 rfl ?_
        refine aw_ialdN (12 + t) dX6_readsRuns_8 (hT.s 2 (by decide)) (hT.n 2 (by decide)) rfl (by omega) (by first | decide | omega) ?_
        refine aw_topE hz ?_
        refine aw_icmp_geN j (j + (n + 1)) 87 dX6_readsRuns_9 (by decide) rfl rfl (by omega) (by omega) (fun c1 => absurd c1 (by omega)) (fun c1 => ?_)
        refine aw_aload_n dX6_readsRuns_12 1 rfl ?_
        refine aw_getI dX6_readsRuns_13 fl_X6_283 (hT.s 0 (by decide)) (hT.n 0 (by decide)) ?_
        refine aw_topE hC.2.2.1 ?_
        refine aw_if_ge 87 dX6_readsRuns_16 (by decide) (fun c2 => absurd c2 (by decide)) (fun c2 => ?_)
        refine aw_aload_n dX6_readsRuns_19 1 rfl ?_
        refine aw_iconst (v := 1) dX6_readsRuns_20 (by decide) ?_
        refine aw_aload_n dX6_readsRuns_21 1 rfl ?_
        refine aw_getR (b := 2) dX6_readsRuns_22 fl_X6_13 rfl (hT.s 0 (by decide)) (hT.n 0 (by decide)) (hT.r 1) ?_
        refine aw_iload_n dX6_readsRuns_25 2 rfl ?_
        refine aw_ialdN (12 + t) dX6_readsRuns_26 (hT.s 2 (by decide)) (hT.n 2 (by decide)) rfl (by omega) (by first | decide | omega) ?_
        refine aw_topE hz ?_
        refine aw_iload_n dX6_readsRuns_27 0 rfl ?_
        refine aw_isubN (j + (n + 1)) j dX6_readsRuns_28 rfl rfl (by omega) ?_
        refine aw_callVi [.int 1, .int (nI ((j + (n + 1)) - j))] [] (sp_p1k (d := d - 1) (by omega) 1 (j + (n + 1) - j) hD hC.2.1 hpl hC.2.2.1 (by decide) (by omega) hc') dX6_readsRuns_29 ml_X6_320 im_X6_part1 (hT.s 0 (by decide)) (hT.n 0 (by decide)) rfl rfl (dl1 (d := d) (by omega)) rfl rfl (Nat.le_of_ble_eq_true rfl) rfl rfl (Nat.zero_le _) (Nat.zero_le _) ?_
        refine aw_istore_n [(3, .int (nI (B p))), (2, .int (nI j)), (0, .ref 0), (1, .int (nI (12 + t)))] dX6_readsRuns_32 (Nat.le_of_ble_eq_true rfl) rfl ?_
        refine aw_iload_n dX6_readsRuns_33 0 rfl ?_
        refine aw_if_ge 41 dX6_readsRuns_34 (by decide) (fun c3 => ?_) (fun c3 => absurd (Int32.not_lt.mp (nI_nn (by omega))) c3)
        refine aw_aload_n dX6_readsRuns_41 2 rfl ?_
        refine aw_aload_n dX6_readsRuns_42 2 rfl ?_
        refine aw_getR (b := 1) dX6_readsRuns_43 fl_X6_7 rfl (((sT.I A 0 24 (nI (p + 1))).TR hT).s 0 (by decide)) (((sT.I A 0 24 (nI (p + 1))).TR hT).n 0 (by decide)) (((sT.I A 0 24 (nI (p + 1))).TR hT).r 0) ?_
        refine aw_iload_n dX6_readsRuns_46 3 rfl ?_
        refine aw_ialdN (12 + t) dX6_readsRuns_47 (((sT.I A 0 24 (nI (p + 1))).TR hT).s 1 (by decide)) (((sT.I A 0 24 (nI (p + 1))).TR hT).n 1 (by decide)) rfl (by omega) (by first | decide | omega) ?_
        refine aw_topE hk1 ?_
        refine aw_callVl [.int (nI k)] [] hq dX6_readsRuns_48 ml_X6_316 im_X6_readsNumber (((sT.I A 0 24 (nI (p + 1))).TR hT).s 0 (by decide)) (((sT.I A 0 24 (nI (p + 1))).TR hT).n 0 (by decide)) rfl rfl (dl1 (d := d) (by omega)) rfl rfl (Nat.le_of_ble_eq_true rfl) rfl rfl (Nat.zero_le _) (Nat.zero_le _) ?_
        refine aw_lstore [(4, .long vp.1), (3, .int (nI (B p))), (2, .int (nI j)), (0, .ref 0), (1, .int (nI (12 + t)))] dX6_readsRuns_51 (Nat.le_of_ble_eq_true rfl) rfl ?_
        refine aw_iconst (v := 0) dX6_readsRuns_53 (by decide) ?_
        refine aw_istore [(6, .int 0), (4, .long vp.1), (3, .int (nI (B p))), (2, .int (nI j)), (0, .ref 0), (1, .int (nI (12 + t)))] dX6_readsRuns_54 (Nat.le_of_ble_eq_true rfl) rfl ?_
        refine aw_eqM (flL_0 (stI A 0 24 (nI vp.2)) 5 (12 * (12 + t) + j) (fun _ => vp.1)).symm ?_
        refine lp_rri (X := (stI A 0 24 (nI vp.2))) (b := B p) (y := vp.1) ((sT.I A 0 24 (nI vp.2)).TR hT) ht12 (by omega) ?_ (B p) 0 (by omega)
        exact q
    · rw [if_neg hc]
      have hc' : ¬ (p < L ∧ 1 ≤ B p ∧ B p ≤ j + (n + 1) - j) := by omega
      have hfl : p < 2 ^ 31 := by omega
      refine aw_iload_n dX6_readsRuns_2 0 rfl ?_
      refine aw_aload_n dX6_readsRuns_3 1 rfl ?_
      refine aw_getR (b := 2) dX6_readsRuns_4 fl_X6_13 rfl (hT.s 0 (by decide)) (hT.n 0 (by decide)) (hT.r 1) ?_
      refine aw_iload_n dX6_readsRuns_7 2 rfl ?_
      refine aw_ialdN (12 + t) dX6_readsRuns_8 (hT.s 2 (by decide)) (hT.n 2 (by decide)) rfl (by omega) (by first | decide | omega) ?_
      refine aw_topE hz ?_
      refine aw_icmp_geN j (j + (n + 1)) 87 dX6_readsRuns_9 (by decide) rfl rfl (by omega) (by omega) (fun c1 => absurd c1 (by omega)) (fun c1 => ?_)
      refine aw_aload_n dX6_readsRuns_12 1 rfl ?_
      refine aw_getI dX6_readsRuns_13 fl_X6_283 (hT.s 0 (by decide)) (hT.n 0 (by decide)) ?_
      refine aw_topE hC.2.2.1 ?_
      refine aw_if_ge 87 dX6_readsRuns_16 (by decide) (fun c2 => absurd c2 (by decide)) (fun c2 => ?_)
      refine aw_aload_n dX6_readsRuns_19 1 rfl ?_
      refine aw_iconst (v := 1) dX6_readsRuns_20 (by decide) ?_
      refine aw_aload_n dX6_readsRuns_21 1 rfl ?_
      refine aw_getR (b := 2) dX6_readsRuns_22 fl_X6_13 rfl (hT.s 0 (by decide)) (hT.n 0 (by decide)) (hT.r 1) ?_
      refine aw_iload_n dX6_readsRuns_25 2 rfl ?_
      refine aw_ialdN (12 + t) dX6_readsRuns_26 (hT.s 2 (by decide)) (hT.n 2 (by decide)) rfl (by omega) (by first | decide | omega) ?_
      refine aw_topE hz ?_
      refine aw_iload_n dX6_readsRuns_27 0 rfl ?_
      refine aw_isubN (j + (n + 1)) j dX6_readsRuns_28 rfl rfl (by omega) ?_
      refine aw_callVi [.int 1, .int (nI ((j + (n + 1)) - j))] [] (sp_p1f (d := d - 1) (by omega) 1 (j + (n + 1) - j) hD hC.2.1 hpl hC.2.2.1 (by decide) (by omega) hc') dX6_readsRuns_29 ml_X6_320 im_X6_part1 (hT.s 0 (by decide)) (hT.n 0 (by decide)) rfl rfl (dl1 (d := d) (by omega)) rfl rfl (Nat.le_of_ble_eq_true rfl) rfl rfl (Nat.zero_le _) (Nat.zero_le _) ?_
      refine aw_istore_n [(3, .int (-1)), (2, .int (nI j)), (0, .ref 0), (1, .int (nI (12 + t)))] dX6_readsRuns_32 (Nat.le_of_ble_eq_true rfl) rfl ?_
      refine aw_iload_n dX6_readsRuns_33 0 rfl ?_
      refine aw_if_ge 41 dX6_readsRuns_34 (by decide) (fun c3 => absurd c3 (by decide)) (fun c3 => ?_)
      refine aw_lconst (v := 0) dX6_readsRuns_37 (by decide) ?_
      refine aw_goto 51 dX6_readsRuns_38 (by decide) ?_
      refine aw_lstore [(4, .long 0), (3, .int (-1)), (2, .int (nI j)), (0, .ref 0), (1, .int (nI (12 + t)))] dX6_readsRuns_51 (Nat.le_of_ble_eq_true rfl) rfl ?_
      refine aw_iconst (v := 0) dX6_readsRuns_53 (by decide) ?_
      refine aw_istore [(6, .int 0), (4, .long 0), (3, .int (-1)), (2, .int (nI j)), (0, .ref 0), (1, .int (nI (12 + t)))] dX6_readsRuns_54 (Nat.le_of_ble_eq_true rfl) rfl ?_
      refine aw_iload dX6_readsRuns_56 0 rfl ?_
      refine aw_iload_n dX6_readsRuns_58 2 rfl ?_
      refine aw_icmp_ge 84 dX6_readsRuns_59 (by decide) (fun c4 => ?_) (fun c4 => absurd (by decide) c4)
      refine aw_goto 2 dX6_readsRuns_84 (by decide) ?_
      refine aw_iload_n dX6_readsRuns_2 3 rfl ?_
      refine aw_aload_n dX6_readsRuns_3 4 rfl ?_
      refine aw_getR (b := 2) dX6_readsRuns_4 fl_X6_13 rfl (((sT.I A 0 25 (nI p)).TR hT).s 0 (by decide)) (((sT.I A 0 25 (nI p)).TR hT).n 0 (by decide)) (((sT.I A 0 25 (nI p)).TR hT).r 1) ?_
      refine aw_iload_n dX6_readsRuns_7 5 rfl ?_
      refine aw_ialdN (12 + t) dX6_readsRuns_8 (((sT.I A 0 25 (nI p)).TR hT).s 2 (by decide)) (((sT.I A 0 25 (nI p)).TR hT).n 2 (by decide)) rfl (by omega) (by first | decide | omega) ?_
      refine aw_topE ((congrFun (mI_stI_c _ _ _ (by decide)) (12 + t)).trans hz) ?_
      refine aw_icmp_geN j (j + (n + 1)) 87 dX6_readsRuns_9 (by decide) rfl rfl (by omega) (by omega) (fun c5 => ?_) (fun c5 => ?_)
      · refine aw_ret dX6_readsRuns_87 rfl (Nat.zero_le _) (Nat.zero_le _) ?_
        exact ⟨rfl, hC.1.i 25 (nI p) (by decide), mI_stI_v _ _ _ _⟩
      · refine aw_aload_n dX6_readsRuns_12 4 rfl ?_
        refine aw_getI dX6_readsRuns_13 fl_X6_283 (((sT.I A 0 25 (nI p)).TR hT).s 0 (by decide)) (((sT.I A 0 25 (nI p)).TR hT).n 0 (by decide)) ?_
        refine aw_topE (mI_stI_v _ _ _ _) ?_
        refine aw_if_ge 87 dX6_readsRuns_16 (by decide) (fun c6 => ?_) (fun c6 => absurd (Int32.not_lt.mp (nI_nn hfl)) c6)
        refine aw_ret dX6_readsRuns_87 rfl (Nat.zero_le _) (Nat.zero_le _) ?_
        exact ⟨rfl, hC.1.i 25 (nI p) (by decide), mI_stI_v _ _ _ _⟩
theorem sp_rF {d : Nat} (hd : 3 ≤ d) {M0 : xM} {B : Nat → Nat} {L k t : Nat} (hS : RfS M0 B L) (hk8 : k < 8) {n p : Nat} {R : pR} {A : xM} (hC : RS M0 p R A) (hpl : p ≤ L) (ht : t < R.1) (hkt : rK R t = k) (hj : rZ R t = n) (hW : ∀ i, rW R t i = k) : Sp (fX6_readsFlat d) [.ref 0, .int (nI (12 + t))] A (QR M0 A (pFlat B L k t n 0 p R)) := by
  refine Sp.of pn_X6 (Nat.le_of_ble_eq_true rfl) (fun h => Bool.noConfusion h) ?_
  refine aw_iconst (v := 0) dX6_readsFlat_0 (by decide) ?_
  refine aw_istore_n [(2, .int 0), (0, .ref 0), (1, .int (nI (12 + t)))] dX6_readsFlat_1 (Nat.le_of_ble_eq_true rfl) rfl ?_
  exact lp_rf hd hS hk8 n 0 p R A hC hpl ht hkt (by omega) hW
theorem sp_rR {d : Nat} (hd : 3 ≤ d) {M0 : xM} {B : Nat → Nat} {L k t : Nat} (hS : RfS M0 B L) (hk8 : k < 8) {n p : Nat} {R : pR} {A : xM} (hC : RS M0 p R A) (hpl : p ≤ L) (ht : t < R.1) (hkt : rK R t = k) (hj : rZ R t = n) (hW : ∀ i, rW R t i = k) : Sp (fX6_readsRuns d) [.ref 0, .int (nI (12 + t))] A (QR M0 A (pRuns B L k t n 0 0 0 p R)) := by
  refine Sp.of pn_X6 (Nat.le_of_ble_eq_true rfl) (fun h => Bool.noConfusion h) ?_
  refine aw_iconst (v := 0) dX6_readsRuns_0 (by decide) ?_
  refine aw_istore_n [(2, .int 0), (0, .ref 0), (1, .int (nI (12 + t)))] dX6_readsRuns_1 (Nat.le_of_ble_eq_true rfl) rfl ?_
  exact lp_rr hd hS hk8 n 0 0 p R A hC hpl ht hkt (by omega) hW
theorem sp_rS {d : Nat} (hd : 2 ≤ d) {M0 : xM} {B : Nat → Nat} {L k t : Nat} (hS : RfS M0 B L) (hk8 : k < 8) {n p : Nat} {R : pR} {A : xM} (hC : RS M0 p R A) (hpl : p ≤ L) (ht : t < R.1) (hkt : rK R t = k) (hj : rZ R t = n) (hW : ∀ i, rW R t i = k) : Sp (fX6_readsSteps d) [.ref 0, .int (nI (12 + t))] A (QR M0 A (pSteps B L k t n 0 0 p R)) := by
  refine Sp.of pn_X6 (Nat.le_of_ble_eq_true rfl) (fun h => Bool.noConfusion h) ?_
  refine aw_lconst (v := 0) dX6_readsSteps_0 (by decide) ?_
  refine aw_lstore_n [(2, .long 0), (0, .ref 0), (1, .int (nI (12 + t)))] dX6_readsSteps_1 (Nat.le_of_ble_eq_true rfl) rfl ?_
  refine aw_iconst (v := 0) dX6_readsSteps_2 (by decide) ?_
  refine aw_istore [(4, .int 0), (2, .long 0), (0, .ref 0), (1, .int (nI (12 + t)))] dX6_readsSteps_3 (Nat.le_of_ble_eq_true rfl) rfl ?_
  exact lp_rss hd hS hk8 n 0 0 p R A hC hpl ht hkt (by omega) hW
