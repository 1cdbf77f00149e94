-- THE REFERENCE READS STEPS, RUNS
theorem pStep_e {B : Nat → Nat} {L p : Nat} : ∀ {g n : Nat} {v : Int64} {f : Nat}, pStep B L p g n v = .error f → f = p
  | 0, _, _, _, h => by injection h with h; exact h.symm
  | g + 1, n, v, f, h => by
    unfold pStep at h
    split at h
    · split at h
      · injection h with h; exact h.symm
      · split at h
        · exact pStep_e h
        · split at h
          · injection h with h; exact h.symm
          · cases h
    · injection h with h; exact h.symm
theorem pNum_e {B : Nat → Nat} {L k p f : Nat} (h : pNum B L k p = .error f) : f = p := by
  unfold pNum at h
  split at h
  · split at h
    · cases h
    · injection h with h; exact h.symm
  · injection h with h; exact h.symm
theorem lp_rss {d : Nat} (hd : 2 ≤ d) {M0 : xM} {B : Nat → Nat} {L k t : Nat} (hS : RfS M0 B L) (hk8 : k < 8) : ∀ n j (a : Int64) p (R : pR) (A : xM), RS M0 p R A → p ≤ L → t < R.1 → rK R t = k → rZ R t = j + n → (∀ i, rW R t i = k) → AW (fX6_readsSteps d) 5 [(4, .int (nI j)), (2, .long a), (0, .ref 0), (1, .int (nI (12 + t)))] [] A 0 0 (QR M0 A (pSteps B L k t n j a p R)) := by
  intro n
  induction n with
  | zero =>
    intro j a p R A hC hpl ht hkt hj hW
    have hL2 := hS.2.1
    have hD := hC.1.D hS
    have hT := hD.1
    have ht12 : t < 12 := by have := hC.2.2.2.2.1; omega
    obtain ⟨-, zz, a3, a4, -, -⟩ := hC.2.2.2.2.2 t ht
    have hk : mI A 1 (12 + t) = nI k := by rw [a3, hkt]
    have hz : mI A 2 (12 + t) = nI (j + 0) := by rw [a4, hj]
    rw [hj] at zz
    refine aw_iload dX6_readsSteps_5 0 rfl ?_
    refine aw_aload_n dX6_readsSteps_7 2 rfl ?_
    refine aw_getR (b := 2) dX6_readsSteps_8 fl_X6_13 rfl (hT.s 0 (by decide)) (hT.n 0 (by decide)) (hT.r 1) ?_
    refine aw_iload_n dX6_readsSteps_11 3 rfl ?_
    refine aw_ialdN (12 + t) dX6_readsSteps_12 (hT.s 2 (by decide)) (hT.n 2 (by decide)) rfl (by omega) (by first | decide | omega) ?_
    refine aw_topE hz ?_
    refine aw_icmp_geN j (j + 0) 74 dX6_readsSteps_13 (by decide) rfl rfl (by omega) (by omega) (fun c1 => ?_) (fun c1 => absurd (by omega) c1)
    refine aw_ret dX6_readsSteps_74 rfl (Nat.zero_le _) (Nat.zero_le _) ?_
    exact ⟨rfl, hC, SK.rf A⟩
  | succ n ih =>
    intro j a p R A hC hpl ht hkt hj hW
    have hL2 := hS.2.1
    have hD := hC.1.D hS
    have hT := hD.1
    have ht12 : t < 12 := by have := hC.2.2.2.2.1; omega
    obtain ⟨-, zz, a3, a4, -, -⟩ := hC.2.2.2.2.2 t ht
    have hk : mI A 1 (12 + t) = nI k := by rw [a3, hkt]
    have hz : mI A 2 (12 + t) = nI (j + (n + 1)) := by rw [a4, hj]
    rw [hj] at zz
    have hq := sp_rs (d := d - 1) (by omega) hD hC.2.1 hpl hC.2.2.1
    unfold pSteps
    cases e : pStep B L p 10 0 0 with
    | error f =>
      rw [e] at hq
      have hfl : f < 2 ^ 31 := by rw [pStep_e e]; omega
      refine aw_iload dX6_readsSteps_5 0 rfl ?_
      refine aw_aload_n dX6_readsSteps_7 2 rfl ?_
      refine aw_getR (b := 2) dX6_readsSteps_8 fl_X6_13 rfl (hT.s 0 (by decide)) (hT.n 0 (by decide)) (hT.r 1) ?_
      refine aw_iload_n dX6_readsSteps_11 3 rfl ?_
      refine aw_ialdN (12 + t) dX6_readsSteps_12 (hT.s 2 (by decide)) (hT.n 2 (by decide)) rfl (by omega) (by first | decide | omega) ?_
      refine aw_topE hz ?_
      refine aw_icmp_geN j (j + (n + 1)) 74 dX6_readsSteps_13 (by decide) rfl rfl (by omega) (by omega) (fun c1 => absurd c1 (by omega)) (fun c1 => ?_)
      refine aw_aload_n dX6_readsSteps_16 2 rfl ?_
      refine aw_getI dX6_readsSteps_17 fl_X6_283 (hT.s 0 (by decide)) (hT.n 0 (by decide)) ?_
      refine aw_topE hC.2.2.1 ?_
      refine aw_if_ge 74 dX6_readsSteps_20 (by decide) (fun c2 => absurd c2 (by decide)) (fun c2 => ?_)
      refine aw_aload_n dX6_readsSteps_23 2 rfl ?_
      refine aw_getI dX6_readsSteps_24 fl_X6_289 (hT.s 0 (by decide)) (hT.n 0 (by decide)) ?_
      refine aw_topE hC.2.1 ?_
      refine aw_istore [(5, .int (nI p)), (4, .int (nI j)), (2, .long a), (0, .ref 0), (1, .int (nI (12 + t)))] dX6_readsSteps_27 (Nat.le_of_ble_eq_true rfl) rfl ?_
      refine aw_lload_n dX6_readsSteps_29 2 rfl ?_
      refine aw_aload_n dX6_readsSteps_30 3 rfl ?_
      refine aw_callVx [] [.long a] hq dX6_readsSteps_31 ml_X6_323 im_X6_readsStep (hT.s 0 (by decide)) (hT.n 0 (by decide)) rfl rfl (dl1 (d := d) (by omega)) rfl rfl (Nat.le_of_ble_eq_true rfl) rfl rfl (Nat.zero_le _) (Nat.zero_le _) (fun r A1 hA1 => ?_)
      obtain ⟨⟨y, rfl⟩, hA1⟩ := hA1
      refine aw_cons ?_
      have hT1 := hA1.1.TR hT
      have hz1 : mI A1 2 (12 + t) = nI (j + (n + 1)) := (congrFun (hA1.2.2.1 2 (by decide)) (12 + t)).trans hz
      have hf1 := hA1.2.2.2.2
      refine aw_ladd dX6_readsSteps_34 ?_
      refine aw_lstore_n [(2, .long (a + y)), (5, .int (nI p)), (4, .int (nI j)), (0, .ref 0), (1, .int (nI (12 + t)))] dX6_readsSteps_35 (Nat.le_of_ble_eq_true rfl) rfl ?_
      refine aw_aload_n dX6_readsSteps_36 3 rfl ?_
      refine aw_getR (b := 1) dX6_readsSteps_37 fl_X6_7 rfl (hT1.s 0 (by decide)) (hT1.n 0 (by decide)) (hT1.r 0) ?_
      refine aw_iload_n dX6_readsSteps_40 4 rfl ?_
      refine aw_ialdN (12 + t) dX6_readsSteps_41 (hT1.s 1 (by decide)) (hT1.n 1 (by decide)) rfl (by omega) (by first | decide | omega) ?_
      refine aw_topE ((congrFun (hA1.2.2.1 1 (by decide)) (12 + t)).trans hk) ?_
      refine aw_lload_n dX6_readsSteps_42 0 rfl ?_
      refine aw_callSi [.int (nI k), .long (a + y)] [] (sp_X6_isNumber (d := d - 1) (by omega) (nI k) (a + y) ) dX6_readsSteps_43 ml_X6_203 sm_X6_isNumber rfl (dl1 (d := d) (by omega)) rfl rfl (Nat.le_of_ble_eq_true rfl) rfl rfl (Nat.zero_le _) (Nat.zero_le _) ?_
      refine aw_if_ne 55 dX6_readsSteps_46 (by decide) (fun c3 => ?_) (fun c3 => ?_)
      · refine aw_aload_n dX6_readsSteps_55 3 rfl ?_
        refine aw_getR (b := 5) dX6_readsSteps_56 fl_X6_23 rfl (hT1.s 0 (by decide)) (hT1.n 0 (by decide)) (hT1.r 4) ?_
        refine aw_bipush (v := 12) dX6_readsSteps_59 (by decide) ?_
        refine aw_iload_n dX6_readsSteps_61 4 rfl ?_
        refine aw_imulN 12 (12 + t) dX6_readsSteps_62 rfl rfl ?_
        refine aw_iload dX6_readsSteps_63 2 rfl ?_
        refine aw_iaddN (12 * (12 + t)) j dX6_readsSteps_65 rfl rfl ?_
        refine aw_lload_n dX6_readsSteps_66 0 rfl ?_
        refine aw_lastN ((12 * (12 + t)) + j) dX6_readsSteps_67 (hT1.s 5 (by decide)) (hT1.n 5 (by decide)) rfl (by omega) (by first | decide | omega) ?_
        refine aw_iincN j 1 [(4, .int (nI (j + 1))), (2, .long (a + y)), (5, .int (nI p)), (0, .ref 0), (1, .int (nI (12 + t)))] dX6_readsSteps_68 2 rfl rfl rfl (Nat.le_of_ble_eq_true rfl) rfl ?_
        refine aw_goto 5 dX6_readsSteps_71 (by decide) ?_
        refine aw_iload dX6_readsSteps_5 0 rfl ?_
        refine aw_aload_n dX6_readsSteps_7 3 rfl ?_
        refine aw_getR (b := 2) dX6_readsSteps_8 fl_X6_13 rfl (((sT.L A1 5 ((12 * (12 + t)) + j) (a + y)).TR hT1).s 0 (by decide)) (((sT.L A1 5 ((12 * (12 + t)) + j) (a + y)).TR hT1).n 0 (by decide)) (((sT.L A1 5 ((12 * (12 + t)) + j) (a + y)).TR hT1).r 1) ?_
        refine aw_iload_n dX6_readsSteps_11 4 rfl ?_
        refine aw_ialdN (12 + t) dX6_readsSteps_12 (((sT.L A1 5 ((12 * (12 + t)) + j) (a + y)).TR hT1).s 2 (by decide)) (((sT.L A1 5 ((12 * (12 + t)) + j) (a + y)).TR hT1).n 2 (by decide)) rfl (by omega) (by first | decide | omega) ?_
        refine aw_topE hz1 ?_
        refine aw_icmp_geN (j + 1) (j + (n + 1)) 74 dX6_readsSteps_13 (by decide) rfl rfl (by omega) (by omega) (fun c4 => ?_) (fun c4 => ?_)
        · refine aw_ret dX6_readsSteps_74 rfl (Nat.zero_le _) (Nat.zero_le _) ?_
          exact ⟨rfl, (hC.1.e hA1).c (by omega) _, hf1⟩
        · refine aw_aload_n dX6_readsSteps_16 3 rfl ?_
          refine aw_getI dX6_readsSteps_17 fl_X6_283 (((sT.L A1 5 ((12 * (12 + t)) + j) (a + y)).TR hT1).s 0 (by decide)) (((sT.L A1 5 ((12 * (12 + t)) + j) (a + y)).TR hT1).n 0 (by decide)) ?_
          refine aw_topE hf1 ?_
          refine aw_if_ge 74 dX6_readsSteps_20 (by decide) (fun c5 => ?_) (fun c5 => absurd (Int32.not_lt.mp (nI_nn hfl)) c5)
          refine aw_ret dX6_readsSteps_74 rfl (Nat.zero_le _) (Nat.zero_le _) ?_
          exact ⟨rfl, (hC.1.e hA1).c (by omega) _, hf1⟩
      · refine aw_aload_n dX6_readsSteps_49 3 rfl ?_
        refine aw_iload dX6_readsSteps_50 1 rfl ?_
        refine aw_callVv [.int (nI p)] [] (sp_fa2 (d := d - 1) (nI p) hT1 hf1 hfl) dX6_readsSteps_52 ml_X6_295 im_X6_faults (hT1.s 0 (by decide)) (hT1.n 0 (by decide)) rfl rfl (dl1 (d := d) (by omega)) rfl rfl (Nat.le_of_ble_eq_true rfl) rfl rfl (Nat.zero_le _) (Nat.zero_le _) ?_
        refine aw_aload_n dX6_readsSteps_55 3 rfl ?_
        refine aw_getR (b := 5) dX6_readsSteps_56 fl_X6_23 rfl (hT1.s 0 (by decide)) (hT1.n 0 (by decide)) (hT1.r 4) ?_
        refine aw_bipush (v := 12) dX6_readsSteps_59 (by decide) ?_
        refine aw_iload_n dX6_readsSteps_61 4 rfl ?_
        refine aw_imulN 12 (12 + t) dX6_readsSteps_62 rfl rfl ?_
        refine aw_iload dX6_readsSteps_63 2 rfl ?_
        refine aw_iaddN (12 * (12 + t)) j dX6_readsSteps_65 rfl rfl ?_
        refine aw_lload_n dX6_readsSteps_66 0 rfl ?_
        refine aw_lastN ((12 * (12 + t)) + j) dX6_readsSteps_67 (hT1.s 5 (by decide)) (hT1.n 5 (by decide)) rfl (by omega) (by first | decide | omega) ?_
        refine aw_iincN j 1 [(4, .int (nI (j + 1))), (2, .long (a + y)), (5, .int (nI p)), (0, .ref 0), (1, .int (nI (12 + t)))] dX6_readsSteps_68 2 rfl rfl rfl (Nat.le_of_ble_eq_true rfl) rfl ?_
        refine aw_goto 5 dX6_readsSteps_71 (by decide) ?_
        refine aw_iload dX6_readsSteps_5 0 rfl ?_
        refine aw_aload_n dX6_readsSteps_7 3 rfl ?_
        refine aw_getR (b := 2) dX6_readsSteps_8 fl_X6_13 rfl (((sT.L A1 5 ((12 * (12 + t)) + j) (a + y)).TR hT1).s 0 (by decide)) (((sT.L A1 5 ((12 * (12 + t)) + j) (a + y)).TR hT1).n 0 (by decide)) (((sT.L A1 5 ((12 * (12 + t)) + j) (a + y)).TR hT1).r 1) ?_
        refine aw_iload_n dX6_readsSteps_11 4 rfl ?_
        refine aw_ialdN (12 + t) dX6_readsSteps_12 (((sT.L A1 5 ((12 * (12 + t)) + j) (a + y)).TR hT1).s 2 (by decide)) (((sT.L A1 5 ((12 * (12 + t)) + j) (a + y)).TR hT1).n 2 (by decide)) rfl (by omega) (by first | decide | omega) ?_
        refine aw_topE hz1 ?_
        refine aw_icmp_geN (j + 1) (j + (n + 1)) 74 dX6_readsSteps_13 (by decide) rfl rfl (by omega) (by omega) (fun c6 => ?_) (fun c6 => ?_)
        · refine aw_ret dX6_readsSteps_74 rfl (Nat.zero_le _) (Nat.zero_le _) ?_
          exact ⟨rfl, (hC.1.e hA1).c (by omega) _, hf1⟩
        · refine aw_aload_n dX6_readsSteps_16 3 rfl ?_
          refine aw_getI dX6_readsSteps_17 fl_X6_283 (((sT.L A1 5 ((12 * (12 + t)) + j) (a + y)).TR hT1).s 0 (by decide)) (((sT.L A1 5 ((12 * (12 + t)) + j) (a + y)).TR hT1).n 0 (by decide)) ?_
          refine aw_topE hf1 ?_
          refine aw_if_ge 74 dX6_readsSteps_20 (by decide) (fun c7 => ?_) (fun c7 => absurd (Int32.not_lt.mp (nI_nn hfl)) c7)
          refine aw_ret dX6_readsSteps_74 rfl (Nat.zero_le _) (Nat.zero_le _) ?_
          exact ⟨rfl, (hC.1.e hA1).c (by omega) _, hf1⟩
    | ok vp =>
      rw [e] at hq
      dsimp only
      have hk1 : mI (stI A 0 24 (nI vp.2)) 1 (12 + t) = nI k := (congrFun (mI_stI_c _ _ _ (by decide)) (12 + t)).trans hk
      rw [fits_eq hk8]
      cases hf : sX6_isNumber (nI k) (a + vp.1) with
      | false =>
        rw [if_neg (by decide)]
        have hfl : p < 2 ^ 31 := by omega
        have hz1 : mI (stI (stI A 0 24 (nI vp.2)) 0 25 (nI p)) 2 (12 + t) = nI (j + (n + 1)) := ((congrFun (mI_stI_c _ _ _ (by decide)) (12 + t)).trans (congrFun (mI_stI_c _ _ _ (by decide)) (12 + t))).trans hz
        refine aw_iload dX6_readsSteps_5 0 rfl ?_
        refine aw_aload_n dX6_readsSteps_7 2 rfl ?_
        refine aw_getR (b := 2) dX6_readsSteps_8 fl_X6_13 rfl (hT.s 0 (by decide)) (hT.n 0 (by decide)) (hT.r 1) ?_
        refine aw_iload_n dX6_readsSteps_11 3 rfl ?_
        refine aw_ialdN (12 + t) dX6_readsSteps_12 (hT.s 2 (by decide)) (hT.n 2 (by decide)) rfl (by omega) (by first | decide | omega) ?_
        refine aw_topE hz ?_
        refine aw_icmp_geN j (j + (n + 1)) 74 dX6_readsSteps_13 (by decide) rfl rfl (by omega) (by omega) (fun c1 => absurd c1 (by omega)) (fun c1 => ?_)
        refine aw_aload_n dX6_readsSteps_16 2 rfl ?_
        refine aw_getI dX6_readsSteps_17 fl_X6_283 (hT.s 0 (by decide)) (hT.n 0 (by decide)) ?_
        refine aw_topE hC.2.2.1 ?_
        refine aw_if_ge 74 dX6_readsSteps_20 (by decide) (fun c2 => absurd c2 (by decide)) (fun c2 => ?_)
        refine aw_aload_n dX6_readsSteps_23 2 rfl ?_
        refine aw_getI dX6_readsSteps_24 fl_X6_289 (hT.s 0 (by decide)) (hT.n 0 (by decide)) ?_
        refine aw_topE hC.2.1 ?_
        refine aw_istore [(5, .int (nI p)), (4, .int (nI j)), (2, .long a), (0, .ref 0), (1, .int (nI (12 + t)))] dX6_readsSteps_27 (Nat.le_of_ble_eq_true rfl) rfl ?_
        refine aw_lload_n dX6_readsSteps_29 2 rfl ?_
        refine aw_aload_n dX6_readsSteps_30 3 rfl ?_
        refine aw_callVl [] [.long a] hq dX6_readsSteps_31 ml_X6_323 im_X6_readsStep (hT.s 0 (by decide)) (hT.n 0 (by decide)) rfl rfl (dl1 (d := d) (by omega)) rfl rfl (Nat.le_of_ble_eq_true rfl) rfl rfl (Nat.zero_le _) (Nat.zero_le _) ?_
        refine aw_ladd dX6_readsSteps_34 ?_
        refine aw_lstore_n [(2, .long (a + vp.1)), (5, .int (nI p)), (4, .int (nI j)), (0, .ref 0), (1, .int (nI (12 + t)))] dX6_readsSteps_35 (Nat.le_of_ble_eq_true rfl) rfl ?_
        refine aw_aload_n dX6_readsSteps_36 3 rfl ?_
        refine aw_getR (b := 1) dX6_readsSteps_37 fl_X6_7 rfl (((sT.I A 0 24 (nI vp.2)).TR hT).s 0 (by decide)) (((sT.I A 0 24 (nI vp.2)).TR hT).n 0 (by decide)) (((sT.I A 0 24 (nI vp.2)).TR hT).r 0) ?_
        refine aw_iload_n dX6_readsSteps_40 4 rfl ?_
        refine aw_ialdN (12 + t) dX6_readsSteps_41 (((sT.I A 0 24 (nI vp.2)).TR hT).s 1 (by decide)) (((sT.I A 0 24 (nI vp.2)).TR hT).n 1 (by decide)) rfl (by omega) (by first | decide | omega) ?_
        refine aw_topE hk1 ?_
        refine aw_lload_n dX6_readsSteps_42 0 rfl ?_
        refine aw_callSi [.int (nI k), .long (a + vp.1)] [] (sp_X6_isNumber (d := d - 1) (by omega) (nI k) (a + vp.1) ) dX6_readsSteps_43 ml_X6_203 sm_X6_isNumber rfl (dl1 (d := d) (by omega)) rfl rfl (Nat.le_of_ble_eq_true rfl) rfl rfl (Nat.zero_le _) (Nat.zero_le _) ?_
        refine aw_if_ne 55 dX6_readsSteps_46 (by decide) (fun c3 => absurd (bz_0.mpr hf) c3) (fun c3 => ?_)
        refine aw_aload_n dX6_readsSteps_49 3 rfl ?_
        refine aw_iload dX6_readsSteps_50 1 rfl ?_
        refine aw_callVv [.int (nI p)] [] (sp_fa (d := d - 1) (nI p) ((sT.I A 0 24 (nI vp.2)).TR hT) ((mI_stI_o _ _ _ _ (by decide)).trans hC.2.2.1)) dX6_readsSteps_52 ml_X6_295 im_X6_faults (((sT.I A 0 24 (nI vp.2)).TR hT).s 0 (by decide)) (((sT.I A 0 24 (nI vp.2)).TR hT).n 0 (by decide)) rfl rfl (dl1 (d := d) (by omega)) rfl rfl (Nat.le_of_ble_eq_true rfl) rfl rfl (Nat.zero_le _) (Nat.zero_le _) ?_
        refine aw_aload_n dX6_readsSteps_55 3 rfl ?_
        refine aw_getR (b := 5) dX6_readsSteps_56 fl_X6_23 rfl (((sT.I (stI A 0 24 (nI vp.2)) 0 25 (nI p)).TR ((sT.I A 0 24 (nI vp.2)).TR hT)).s 0 (by decide)) (((sT.I (stI A 0 24 (nI vp.2)) 0 25 (nI p)).TR ((sT.I A 0 24 (nI vp.2)).TR hT)).n 0 (by decide)) (((sT.I (stI A 0 24 (nI vp.2)) 0 25 (nI p)).TR ((sT.I A 0 24 (nI vp.2)).TR hT)).r 4) ?_
        refine aw_bipush (v := 12) dX6_readsSteps_59 (by decide) ?_
        refine aw_iload_n dX6_readsSteps_61 4 rfl ?_
        refine aw_imulN 12 (12 + t) dX6_readsSteps_62 rfl rfl ?_
        refine aw_iload dX6_readsSteps_63 2 rfl ?_
        refine aw_iaddN (12 * (12 + t)) j dX6_readsSteps_65 rfl rfl ?_
        refine aw_lload_n dX6_readsSteps_66 0 rfl ?_
        refine aw_lastN ((12 * (12 + t)) + j) dX6_readsSteps_67 (((sT.I (stI A 0 24 (nI vp.2)) 0 25 (nI p)).TR ((sT.I A 0 24 (nI vp.2)).TR hT)).s 5 (by decide)) (((sT.I (stI A 0 24 (nI vp.2)) 0 25 (nI p)).TR ((sT.I A 0 24 (nI vp.2)).TR hT)).n 5 (by decide)) rfl (by omega) (by first | decide | omega) ?_
        refine aw_iincN j 1 [(4, .int (nI (j + 1))), (2, .long (a + vp.1)), (5, .int (nI p)), (0, .ref 0), (1, .int (nI (12 + t)))] dX6_readsSteps_68 2 rfl rfl rfl (Nat.le_of_ble_eq_true rfl) rfl ?_
        refine aw_goto 5 dX6_readsSteps_71 (by decide) ?_
        refine aw_iload dX6_readsSteps_5 0 rfl ?_
        refine aw_aload_n dX6_readsSteps_7 3 rfl ?_
        refine aw_getR (b := 2) dX6_readsSteps_8 fl_X6_13 rfl (((sT.L (stI (stI A 0 24 (nI vp.2)) 0 25 (nI p)) 5 ((12 * (12 + t)) + j) (a + vp.1)).TR ((sT.I (stI A 0 24 (nI vp.2)) 0 25 (nI p)).TR ((sT.I A 0 24 (nI vp.2)).TR hT))).s 0 (by decide)) (((sT.L (stI (stI A 0 24 (nI vp.2)) 0 25 (nI p)) 5 ((12 * (12 + t)) + j) (a + vp.1)).TR ((sT.I (stI A 0 24 (nI vp.2)) 0 25 (nI p)).TR ((sT.I A 0 24 (nI vp.2)).TR hT))).n 0 (by decide)) (((sT.L (stI (stI A 0 24 (nI vp.2)) 0 25 (nI p)) 5 ((12 * (12 + t)) + j) (a + vp.1)).TR ((sT.I (stI A 0 24 (nI vp.2)) 0 25 (nI p)).TR ((sT.I A 0 24 (nI vp.2)).TR hT))).r 1) ?_
        refine aw_iload_n dX6_readsSteps_11 4 rfl ?_
        refine aw_ialdN (12 + t) dX6_readsSteps_12 (((sT.L (stI (stI A 0 24 (nI vp.2)) 0 25 (nI p)) 5 ((12 * (12 + t)) + j) (a + vp.1)).TR ((sT.I (stI A 0 24 (nI vp.2)) 0 25 (nI p)).TR ((sT.I A 0 24 (nI vp.2)).TR hT))).s 2 (by decide)) (((sT.L (stI (stI A 0 24 (nI vp.2)) 0 25 (nI p)) 5 ((12 * (12 + t)) + j) (a + vp.1)).TR ((sT.I (stI A 0 24 (nI vp.2)) 0 25 (nI p)).TR ((sT.I A 0 24 (nI vp.2)).TR hT))).n 2 (by decide)) rfl (by omega) (by first | decide | omega) ?_
        refine aw_topE hz1 ?_
        refine aw_icmp_geN (j + 1) (j + (n + 1)) 74 dX6_readsSteps_13 (by decide) rfl rfl (by omega) (by omega) (fun c4 => ?_) (fun c4 => ?_)
        · refine aw_ret dX6_readsSteps_74 rfl (Nat.zero_le _) (Nat.zero_le _) ?_
          exact ⟨rfl, (((hC.p vp.2).1.i 25 (nI p) (by decide)).c (by omega) _), mI_stI_v (stI A 0 24 (nI vp.2)) 0 25 (nI p)⟩
        · refine aw_aload_n dX6_readsSteps_16 3 rfl ?_
          refine aw_getI dX6_readsSteps_17 fl_X6_283 (((sT.L (stI (stI A 0 24 (nI vp.2)) 0 25 (nI p)) 5 ((12 * (12 + t)) + j) (a + vp.1)).TR ((sT.I (stI A 0 24 (nI vp.2)) 0 25 (nI p)).TR ((sT.I A 0 24 (nI vp.2)).TR hT))).s 0 (by decide)) (((sT.L (stI (stI A 0 24 (nI vp.2)) 0 25 (nI p)) 5 ((12 * (12 + t)) + j) (a + vp.1)).TR ((sT.I (stI A 0 24 (nI vp.2)) 0 25 (nI p)).TR ((sT.I A 0 24 (nI vp.2)).TR hT))).n 0 (by decide)) ?_
          refine aw_topE (mI_stI_v (stI A 0 24 (nI vp.2)) 0 25 (nI p)) ?_
          refine aw_if_ge 74 dX6_readsSteps_20 (by decide) (fun c5 => ?_) (fun c5 => absurd (Int32.not_lt.mp (nI_nn hfl)) c5)
          refine aw_ret dX6_readsSteps_74 rfl (Nat.zero_le _) (Nat.zero_le _) ?_
          exact ⟨rfl, (((hC.p vp.2).1.i 25 (nI p) (by decide)).c (by omega) _), mI_stI_v (stI A 0 24 (nI vp.2)) 0 25 (nI p)⟩
      | true =>
        rw [if_pos rfl]
        have q := ih (j + 1) (a + vp.1) vp.2 (rSet R t j k (a + vp.1)) _ ((hC.p vp.2).num (k := k) ht (by omega) (by omega) (by omega) (hW j) (by omega) (a + vp.1)) (pStep_le e) ht hkt (by show rZ R t = _; omega) (fun i => by show xup (rW R) t j k t i = k; unfold xup; rw [if_pos rfl, hW i]; split <;> rfl)
        have q := aw_post (fun r C h => QR_s (SK.t (SK_i A (nI vp.2) (by decide)) (SK_l (stI A 0 24 (nI vp.2)) (12 * (12 + t) + j) (a + vp.1))) h) q
        refine aw_iload dX6_readsSteps_5 0 rfl ?_
        refine aw_aload_n dX6_readsSteps_7 2 rfl ?_
        refine aw_getR (b := 2) dX6_readsSteps_8 fl_X6_13 rfl (hT.s 0 (by decide)) (hT.n 0 (by decide)) (hT.r 1) ?_
        refine aw_iload_n dX6_readsSteps_11 3 rfl ?_
        refine aw_ialdN (12 + t) dX6_readsSteps_12 (hT.s 2 (by decide)) (hT.n 2 (by decide)) rfl (by omega) (by first | decide | omega) ?_
        refine aw_topE hz ?_
        refine aw_icmp_geN j (j + (n + 1)) 74 dX6_readsSteps_13 (by decide) rfl rfl (by omega) (by omega) (fun c1 => absurd c1 (by omega)) (fun c1 => ?_)
        refine aw_aload_n dX6_readsSteps_16 2 rfl ?_
        refine aw_getI dX6_readsSteps_17 fl_X6_283 (hT.s 0 (by decide)) (hT.n 0 (by decide)) ?_
        refine aw_topE hC.2.2.1 ?_
        refine aw_if_ge 74 dX6_readsSteps_20 (by decide) (fun c2 => absurd c2 (by decide)) (fun c2 => ?_)
        refine aw_aload_n dX6_readsSteps_23 2 rfl ?_
        refine aw_getI dX6_readsSteps_24 fl_X6_289 (hT.s 0 (by decide)) (hT.n 0 (by decide)) ?_
        refine aw_topE hC.2.1 ?_
        refine aw_istore [(5, .int (nI p)), (4, .int (nI j)), (2, .long a), (0, .ref 0), (1, .int (nI (12 + t)))] dX6_readsSteps_27 (Nat.le_of_ble_eq_true rfl) rfl ?_
        refine aw_lload_n dX6_readsSteps_29 2 rfl ?_
        refine aw_aload_n dX6_readsSteps_30 3 rfl ?_
        refine aw_callVl [] [.long a] hq dX6_readsSteps_31 ml_X6_323 im_X6_readsStep (hT.s 0 (by decide)) (hT.n 0 (by decide)) rfl rfl (dl1 (d := d) (by omega)) rfl rfl (Nat.le_of_ble_eq_true rfl) rfl rfl (Nat.zero_le _) (Nat.zero_le _) ?_
        refine aw_ladd dX6_readsSteps_34 ?_
        refine aw_lstore_n [(2, .long (a + vp.1)), (5, .int (nI p)), (4, .int (nI j)), (0, .ref 0), (1, .int (nI (12 + t)))] dX6_readsSteps_35 (Nat.le_of_ble_eq_true rfl) rfl ?_
        refine aw_aload_n dX6_readsSteps_36 3 rfl ?_
        refine aw_getR (b := 1) dX6_readsSteps_37 fl_X6_7 rfl (((sT.I A 0 24 (nI vp.2)).TR hT).s 0 (by decide)) (((sT.I A 0 24 (nI vp.2)).TR hT).n 0 (by decide)) (((sT.I A 0 24 (nI vp.2)).TR hT).r 0) ?_
        refine aw_iload_n dX6_readsSteps_40 4 rfl ?_
        refine aw_ialdN (12 + t) dX6_readsSteps_41 (((sT.I A 0 24 (nI vp.2)).TR hT).s 1 (by decide)) (((sT.I A 0 24 (nI vp.2)).TR hT).n 1 (by decide)) rfl (by omega) (by first | decide | omega) ?_
        refine aw_topE hk1 ?_
        refine aw_lload_n dX6_readsSteps_42 0 rfl ?_
        refine aw_callSi [.int (nI k), .long (a + vp.1)] [] (sp_X6_isNumber (d := d - 1) (by omega) (nI k) (a + vp.1) ) dX6_readsSteps_43 ml_X6_203 sm_X6_isNumber rfl (dl1 (d := d) (by omega)) rfl rfl (Nat.le_of_ble_eq_true rfl) rfl rfl (Nat.zero_le _) (Nat.zero_le _) ?_
        refine aw_if_ne 55 dX6_readsSteps_46 (by decide) (fun c3 => ?_) (fun c3 => absurd c3 (bz_n0.mpr hf))
        refine aw_aload_n dX6_readsSteps_55 3 rfl ?_
        refine aw_getR (b := 5) dX6_readsSteps_56 fl_X6_23 rfl (((sT.I A 0 24 (nI vp.2)).TR hT).s 0 (by decide)) (((sT.I A 0 24 (nI vp.2)).TR hT).n 0 (by decide)) (((sT.I A 0 24 (nI vp.2)).TR hT).r 4) ?_
        refine aw_bipush (v := 12) dX6_readsSteps_59 (by decide) ?_
        refine aw_iload_n dX6_readsSteps_61 4 rfl ?_
        refine aw_imulN 12 (12 + t) dX6_readsSteps_62 rfl rfl ?_
        refine aw_iload dX6_readsSteps_63 2 rfl ?_
        refine aw_iaddN (12 * (12 + t)) j dX6_readsSteps_65 rfl rfl ?_
        refine aw_lload_n dX6_readsSteps_66 0 rfl ?_
        refine aw_lastN ((12 * (12 + t)) + j) dX6_readsSteps_67 (((sT.I A 0 24 (nI vp.2)).TR hT).s 5 (by decide)) (((sT.I A 0 24 (nI vp.2)).TR hT).n 5 (by decide)) rfl (by omega) (by first | decide | omega) ?_
        refine aw_iincN j 1 [(4, .int (nI (j + 1))), (2, .long (a + vp.1)), (5, .int (nI p)), (0, .ref 0), (1, .int (nI (12 + t)))] dX6_readsSteps_68 2 rfl rfl rfl (Nat.le_of_ble_eq_true rfl) rfl ?_
        refine aw_goto 5 dX6_readsSteps_71 (by decide) ?_
        refine aw_sub [0, 1, 3, 4] rfl ?_
        exact q
def rFil (k : Nat) (v : Int64) (t : Nat) : Nat → Nat → pR → pR
  | 0, _, R => R
  | b + 1, j, R => rFil k v t b (j + 1) (rSet R t j k v)
theorem pRuns_r {B : Nat → Nat} {L k t : Nat} {v : Int64} {p : Nat} : ∀ {r n j : Nat} {R : pR}, pRuns B L k t (n + r) j r v p R = pRuns B L k t n (j + r) 0 v p (rFil k v t r j R)
  | 0, _, _, _ => rfl
  | r + 1, n, j, R => by
    show pRuns B L k t (n + r) (j + 1) r v p (rSet R t j k v) = _
    rw [pRuns_r, show j + 1 + r = j + (r + 1) by omega]
    rfl
theorem pRuns_0 {B : Nat → Nat} {L k t n j p : Nat} {v w : Int64} {R : pR} : pRuns B L k t n j 0 v p R = pRuns B L k t n j 0 w p R := by
  cases n with
  | zero => unfold pRuns; rfl
  | succ n => rfl
theorem flL_fr (M : xM) (a lo n : Nat) (v : Int64) : flL (stL M a lo v) a (lo + 1) n (fun _ => v) = flL M a lo (n + 1) (fun _ => v) := by
  have e : xfl (xup M.2.1 a lo v) a (lo + 1) n (fun _ => v) = xfl M.2.1 a lo (n + 1) (fun _ => v) := by
    funext x y
    unfold xfl xup
    by_cases c1 : x = a
    · by_cases c2 : y = lo
      · rw [if_neg (by omega), if_pos c1, if_pos c2, if_pos (by omega)]
      · by_cases c3 : lo + 1 ≤ y ∧ y < lo + 1 + n
        · rw [if_pos ⟨c1, c3⟩, if_pos (by omega)]
        · rw [if_neg (fun z => c3 z.2), if_pos c1, if_neg c2, if_neg (by omega)]
    · rw [if_neg (fun z => c1 z.1), if_neg c1, if_neg (fun z => c1 z.1)]
  exact congrArg (fun z => (M.1, z, M.2.2)) e
theorem rFil_s {k t : Nat} {v : Int64} : ∀ (b j : Nat) (R : pR), (rFil k v t b j R).1 = R.1 ∧ rK (rFil k v t b j R) = rK R ∧ rZ (rFil k v t b j R) = rZ R ∧ ((∀ i, rW R t i = k) → ∀ i, rW (rFil k v t b j R) t i = k)
  | 0, _, R => ⟨rfl, rfl, rfl, fun h => h⟩
  | b + 1, j, R => by
    obtain ⟨h1, h2, h3, h4⟩ := rFil_s b (j + 1) (rSet R t j k v)
    exact ⟨h1, h2, h3, fun h => h4 (fun i => by show xup (rW R) t j k t i = k; unfold xup; rw [if_pos rfl, h i]; split <;> rfl)⟩
theorem RS.fil {M0 : xM} {k t : Nat} (hk8 : k < 8) (v : Int64) : ∀ (b j p : Nat) (R : pR) (A : xM), RS M0 p R A → t < R.1 → j + b ≤ rZ R t → rK R t = k → (∀ i, rW R t i = k) → RS M0 p (rFil k v t b j R) (flL A 5 (12 * (12 + t) + j) b (fun _ => v))
  | 0, j, p, R, A, h, _, _, _, _ => by rw [flL_0]; exact h
  | b + 1, j, p, R, A, h, ht, hz, hk, hW => by
    have hz12 := (h.2.2.2.2.2 t ht).2.1
    have q := RS.fil hk8 v b (j + 1) p (rSet R t j k v) _ (h.num ht (by omega) (by omega) (by omega) (hW j) (by omega) v) ht (by show j + 1 + b ≤ rZ R t; omega) hk (fun i => by show xup (rW R) t j k t i = k; unfold xup; rw [if_pos rfl, hW i]; split <;> rfl)
    rw [← Nat.add_assoc, flL_fr] at q
    exact q
theorem RFm.fl {M0 A : xM} (h : RFm M0 A) {lo n : Nat} (hc : 144 ≤ lo) (g : Nat → Int64) : RFm M0 (flL A 5 lo n g) := by
  obtain ⟨h1, h2, h3, h4, h5, h6, h7⟩ := h
  refine ⟨h1.tr ⟨rfl, rfl, rfl⟩, h2, fun y a b => (mL_flL_ne _ b).trans (h3 y a b), fun i hi => ⟨(h4 i hi).1, (h4 i hi).2.1, (congrFun (mL_flL_ne _ (by decide)) i).trans (h4 i hi).2.2⟩, fun i hi => ⟨(h5 i hi).1, (mL_flL_oy _ (Or.inl (by omega))).trans (h5 i hi).2⟩, h6, h7⟩
theorem SK_f (A : xM) (lo n : Nat) (g : Nat → Int64) : SK A (flL A 5 lo n g) := ⟨rfl, rfl, rfl⟩
theorem lp_rri {d : Nat} {X : xM} {t j b : Nat} {y : Int64} (hT : TR X) (ht : t < 12) (hjb : j + b ≤ 12) {post : Option Value → xM → Prop} (k : AW (fX6_readsRuns d) 2 [(2, .int (nI (j + b))), (0, .ref 0), (1, .int (nI (12 + t)))] [] (flL X 5 (12 * (12 + t) + j) b (fun _ => y)) 0 0 post) : ∀ n i, i + n = b → AW (fX6_readsRuns d) 56 [(6, .int (nI i)), (4, .long y), (3, .int (nI b)), (2, .int (nI (j + i))), (0, .ref 0), (1, .int (nI (12 + t)))] [] (flL X 5 (12 * (12 + t) + j) i (fun _ => y)) 0 0 post := by
  intro n
  induction n with
  | zero =>
    intro i hi
    obtain rfl : i = b := by omega
    refine aw_iload dX6_readsRuns_56 0 rfl ?_
    refine aw_iload_n dX6_readsRuns_58 2 rfl ?_
    refine aw_icmp_geN i i 84 dX6_readsRuns_59 (by decide) rfl rfl (by omega) (by omega) (fun c1 => ?_) (fun c1 => absurd (by omega) c1)
    refine aw_goto 2 dX6_readsRuns_84 (by decide) ?_
    refine aw_sub [3, 4, 5] rfl ?_
    exact k
  | succ n ih =>
    intro i hi
    have g := ih (i + 1) (by omega)
    rw [← flL_s X 5 (12 * (12 + t) + j) i (fun _ => y) (v := y) rfl] at g
    refine aw_iload dX6_readsRuns_56 0 rfl ?_
    refine aw_iload_n dX6_readsRuns_58 2 rfl ?_
    refine aw_icmp_geN i b 84 dX6_readsRuns_59 (by decide) rfl rfl (by omega) (by omega) (fun c1 => absurd c1 (by omega)) (fun c1 => ?_)
    refine aw_aload_n dX6_readsRuns_62 4 rfl ?_
    refine aw_getR (b := 5) dX6_readsRuns_63 fl_X6_23 rfl (((sT.flL X 5 (12 * (12 + t) + j) i (fun _ => y)).TR hT).s 0 (by decide)) (((sT.flL X 5 (12 * (12 + t) + j) i (fun _ => y)).TR hT).n 0 (by decide)) (((sT.flL X 5 (12 * (12 + t) + j) i (fun _ => y)).TR hT).r 4) ?_
    refine aw_bipush (v := 12) dX6_readsRuns_66 (by decide) ?_
    refine aw_iload_n dX6_readsRuns_68 5 rfl ?_
    refine aw_imulN 12 (12 + t) dX6_readsRuns_69 rfl rfl ?_
    refine aw_iload_n dX6_readsRuns_70 3 rfl ?_
    refine aw_iaddN (12 * (12 + t)) (j + i) dX6_readsRuns_71 rfl rfl ?_
    refine aw_lload dX6_readsRuns_72 1 rfl ?_
    refine aw_lastN (12 * (12 + t) + j + i) dX6_readsRuns_74 (((sT.flL X 5 (12 * (12 + t) + j) i (fun _ => y)).TR hT).s 5 (by decide)) (((sT.flL X 5 (12 * (12 + t) + j) i (fun _ => y)).TR hT).n 5 (by decide)) (congrArg nI (Nat.add_assoc _ _ _).symm) (by omega) (by first | decide | omega) ?_
    refine aw_iincN (j + i) 1 [(2, .int (nI (j + i + 1))), (6, .int (nI i)), (4, .long y), (3, .int (nI b)), (0, .ref 0), (1, .int (nI (12 + t)))] dX6_readsRuns_75 3 rfl rfl rfl (Nat.le_of_ble_eq_true rfl) rfl ?_
    refine aw_iincN i 1 [(6, .int (nI (i + 1))), (2, .int (nI (j + i + 1))), (4, .long y), (3, .int (nI b)), (0, .ref 0), (1, .int (nI (12 + t)))] dX6_readsRuns_78 1 rfl rfl rfl (Nat.le_of_ble_eq_true rfl) rfl ?_
    refine aw_goto 56 dX6_readsRuns_81 (by decide) ?_
    refine aw_sub [0, 2, 3, 1, 4, 5] rfl ?_
    exact g
