-- THE CLASS READS RUNS, ELEMENTS
theorem vpM_i (M : xM) (x : Int32) (v : Int64) (q : Nat) : vpM (stI M 8 2 x) v q = vpM M v q := by
  have e1 := xup_2 M.1 8 2 x (nI q)
  show (xup (xup M.1 8 2 x) 8 2 (nI q), xup M.2.1 8 5 v, M.2.2) = (xup M.1 8 2 (nI q), xup M.2.1 8 5 v, M.2.2)
  rw [e1]
theorem PL_i {M : xM} {x : Int32} {q : pV} {r : Option Value} {A : xM} (h : PL (stI M 8 2 x) q r A) : PL M q r A := by
  cases q with
  | error f => exact ⟨h.1, Er_p h.2⟩
  | ok vp => exact ⟨h.1, h.2.trans (vpM_i M x vp.1 vp.2)⟩
theorem PL_b {M : xM} {q : pV} {r : Option Value} {A : xM} (h : PL M q r A) : ∃ b, r = some (.int (bz b)) := by
  cases q with
  | error f => exact ⟨false, h.1⟩
  | ok vp => exact ⟨true, h.1⟩
theorem PR_b {M : xM} {q : pP} {r : Option Value} {A : xM} (h : PR M q r A) : ∃ b, r = some (.int (bz b)) := by
  cases q with
  | error f => exact ⟨false, h.1⟩
  | ok vp => exact ⟨true, h.1⟩
theorem lp_tr {d : Nat} (hd : 4 ≤ d) {M0 : xM} {so N : Nat} {B : Nat → Nat} {L k t : Nat} (hS : RdS M0 so N B L) (hk8 : k < 8) : ∀ n j r (v : Int64) p (R : pR) (A : xM), CS M0 p R A → p ≤ L → t < R.1 → rK R t = k → rZ R t = j + n → (0 < r → mL A 8 5 = v) → r ≤ n → AW (fX1_takeRuns d) 4 [(3, .int (nI j)), (2, .int (nI r)), (0, .ref 8), (1, .ref (10 + 3 * t))] [] A 0 0 (PR M0 (pRuns B L k t n j r v p R)) := by
  intro n
  induction n with
  | zero =>
    intro j r v p R A hC hpl ht hkt hj hv hrn
    have hL1 := hS.2.2.2.1
    have hL2 := hS.2.2.2.2.1
    have hD := hC.1.D hS
    have ht12 : t < 12 := by have := hC.2.2.2.2.1; omega
    obtain ⟨-, zz, a3, a4, -, -⟩ := hC.2.2.2.2.2 t ht
    have hk : mI A (10 + 3 * t) 0 = nI k := by rw [a3, hkt]
    have hz : mI A (10 + 3 * t) 1 = nI (j + 0) := by rw [a4, hj]
    rw [hj] at zz
    rw [show pRuns B L k t 0 j r v p R = .ok (p, R) by unfold pRuns; rfl]
    refine aw_iload_n dX1_takeRuns_4 0 rfl ?_
    refine aw_aload_n dX1_takeRuns_5 3 rfl ?_
    refine aw_getI dX1_takeRuns_6 fl_X1_83 (hD.1.rrow (t := t) ht12).1 (hD.1.rrow (t := t) ht12).n0 ?_
    refine aw_topE hz ?_
    refine aw_icmp_geN j (j + 0) 97 dX1_takeRuns_9 (by decide) rfl rfl (by omega) (by omega) (fun c1 => ?_) (fun c1 => absurd (by omega) c1)
    refine aw_iconst (v := 1) dX1_takeRuns_97 (by decide) ?_
    refine aw_zret dX1_takeRuns_98 rfl rfl (Nat.zero_le _) (Nat.zero_le _) ?_
    exact ⟨rfl, hC⟩
  | succ n ih =>
    intro j r v p R A hC hpl ht hkt hj hv hrn
    have hL1 := hS.2.2.2.1
    have hL2 := hS.2.2.2.2.1
    have hD := hC.1.D hS
    have ht12 : t < 12 := by have := hC.2.2.2.2.1; omega
    obtain ⟨-, zz, a3, a4, -, -⟩ := hC.2.2.2.2.2 t ht
    have hk : mI A (10 + 3 * t) 0 = nI k := by rw [a3, hkt]
    have hz : mI A (10 + 3 * t) 1 = nI (j + (n + 1)) := by rw [a4, hj]
    rw [hj] at zz
    cases r with
    | succ r =>
      rw [show pRuns B L k t (n + 1) j (r + 1) v p R = pRuns B L k t n (j + 1) r v p (rSet R t j k v) from rfl]
      have hv5 := hv (by omega)
      have q := ih (j + 1) r v p (rSet R t j k v) _ (hC.fill (w := k) ht (by omega) v (by omega)) hpl ht hkt (by show rZ R t = _; omega) (fun _ => (congrFun (mL_stL_c _ _ _ (by omega)) 5).trans hv5) (by omega)
      refine aw_iload_n dX1_takeRuns_4 0 rfl ?_
      refine aw_aload_n dX1_takeRuns_5 3 rfl ?_
      refine aw_getI dX1_takeRuns_6 fl_X1_83 (hD.1.rrow (t := t) ht12).1 (hD.1.rrow (t := t) ht12).n0 ?_
      refine aw_topE hz ?_
      refine aw_icmp_geN j (j + (n + 1)) 97 dX1_takeRuns_9 (by decide) rfl rfl (by omega) (by omega) (fun c1 => absurd c1 (by omega)) (fun c1 => ?_)
      refine aw_iload_n dX1_takeRuns_12 1 rfl ?_
      refine aw_if_ne 75 dX1_takeRuns_13 (by decide) (fun c2 => ?_) (fun c2 => absurd ((nI_z (by omega)).mp c2) (by omega))
      refine aw_aload_n dX1_takeRuns_75 3 rfl ?_
      refine aw_iload_n dX1_takeRuns_76 0 rfl ?_
      refine aw_aload_n dX1_takeRuns_77 3 rfl ?_
      refine aw_getI dX1_takeRuns_78 fl_X1_86 (hD.1.rrow (t := t) ht12).1 (hD.1.rrow (t := t) ht12).n0 ?_
      refine aw_topE hk ?_
      refine aw_aload_n dX1_takeRuns_81 2 rfl ?_
      refine aw_getL dX1_takeRuns_82 fl_X1_27 (hD.1.s 8 (by decide)) (hD.1.n 8 (by decide)) ?_
      refine aw_toplE hv5 ?_
      refine aw_callVv [.int (nI j), .int (nI k), .long v] [] (sp_X2_fill (d := d - 1) (by omega) j (nI k) v (hD.1.rrow (t := t) ht12) (by omega)) dX1_takeRuns_85 ml_X1_96 im_X2_fill (hD.1.rrow (t := t) ht12).1 (hD.1.rrow (t := t) ht12).n0 rfl rfl (dl1 (d := d) (by omega)) rfl rfl (Nat.le_of_ble_eq_true rfl) rfl rfl (Nat.zero_le _) (Nat.zero_le _) ?_
      refine aw_iincN1 r [(2, .int (nI r)), (3, .int (nI j)), (0, .ref 8), (1, .ref (10 + 3 * t))] dX1_takeRuns_88 1 rfl rfl (Nat.le_of_ble_eq_true rfl) rfl ?_
      refine aw_iincN j 1 [(3, .int (nI (j + 1))), (2, .int (nI r)), (0, .ref 8), (1, .ref (10 + 3 * t))] dX1_takeRuns_91 1 rfl rfl rfl (Nat.le_of_ble_eq_true rfl) rfl ?_
      refine aw_goto 4 dX1_takeRuns_94 (by decide) ?_
      exact q
    | zero =>
      rw [show pRuns B L k t (n + 1) j 0 v p R = (if p < L ∧ 1 ≤ B p ∧ B p ≤ n + 1 then (match pNum B L k (p + 1) with
        | .error f => .error f
        | .ok vp => pRuns B L k t n (j + 1) (B p - 1) vp.1 vp.2 (rSet R t j k vp.1)) else .error p) from rfl]
      by_cases cl : p < L
      · have hb := (hD.2.2.2.2.2.2.2 p cl).2
        by_cases b1 : 1 ≤ B p
        · by_cases b2 : B p ≤ n + 1
          · rw [if_pos ⟨cl, b1, b2⟩]
            obtain ⟨b0, eb⟩ : ∃ b0, B p = b0 + 1 := ⟨B p - 1, by omega⟩
            have hq := (sp_tn (d := d - 1) (k := k) (p := p + 1) (by omega) (hD.i 2 (nI (p + 1))) (mI_stI_v _ _ _ _) (by omega) hk8).weaken (fun r A h => PL_i h)
            cases e : pNum B L k (p + 1) with
            | error f =>
              rw [e] at hq
              refine aw_iload_n dX1_takeRuns_4 0 rfl ?_
              refine aw_aload_n dX1_takeRuns_5 3 rfl ?_
              refine aw_getI dX1_takeRuns_6 fl_X1_83 (hD.1.rrow (t := t) ht12).1 (hD.1.rrow (t := t) ht12).n0 ?_
              refine aw_topE hz ?_
              refine aw_icmp_geN j (j + (n + 1)) 97 dX1_takeRuns_9 (by decide) rfl rfl (by omega) (by omega) (fun c1 => absurd c1 (by omega)) (fun c1 => ?_)
              refine aw_iload_n dX1_takeRuns_12 1 rfl ?_
              refine aw_if_ne 75 dX1_takeRuns_13 (by decide) (fun c2 => absurd rfl c2) (fun c2 => ?_)
              refine aw_aload_n dX1_takeRuns_16 2 rfl ?_
              refine aw_getR (b := so) dX1_takeRuns_17 fl_X1_31 rfl (hD.1.s 8 (by decide)) (hD.1.n 8 (by decide)) hD.2.1 ?_
              refine aw_aload_n dX1_takeRuns_20 2 rfl ?_
              refine aw_getI dX1_takeRuns_21 fl_X1_21 (hD.1.s 8 (by decide)) (hD.1.n 8 (by decide)) ?_
              refine aw_topE hC.2.2.1 ?_
              refine aw_callVi [.int (nI p)] [] (sp_at (d := d - 1) hD cl) dX1_takeRuns_24 ml_X1_36 im_X3_at hD.2.2.1.1 hD.2.2.1.n0 rfl rfl (dl1 (d := d) (by omega)) rfl rfl (Nat.le_of_ble_eq_true rfl) rfl rfl (Nat.zero_le _) (Nat.zero_le _) ?_
              refine aw_istore_n [(2, .int (nI (B p))), (3, .int (nI j)), (0, .ref 8), (1, .ref (10 + 3 * t))] dX1_takeRuns_27 (Nat.le_of_ble_eq_true rfl) rfl ?_
              refine aw_iload_n dX1_takeRuns_28 0 rfl ?_
              refine aw_iconst (v := 1) dX1_takeRuns_29 (by decide) ?_
              refine aw_icmp_ltN (B p) 1 43 dX1_takeRuns_30 (by decide) rfl rfl (by omega) (by omega) (fun c3 => absurd c3 (by omega)) (fun c3 => ?_)
              refine aw_iload_n dX1_takeRuns_33 0 rfl ?_
              refine aw_aload_n dX1_takeRuns_34 3 rfl ?_
              refine aw_getI dX1_takeRuns_35 fl_X1_83 (hD.1.rrow (t := t) ht12).1 (hD.1.rrow (t := t) ht12).n0 ?_
              refine aw_topE hz ?_
              refine aw_iload_n dX1_takeRuns_38 1 rfl ?_
              refine aw_isubN (j + (n + 1)) j dX1_takeRuns_39 rfl rfl (by omega) ?_
              refine aw_icmp_leN (B p) ((j + (n + 1)) - j) 52 dX1_takeRuns_40 (by decide) rfl rfl (by omega) (by omega) (fun c4 => ?_) (fun c4 => absurd (by omega) c4)
              refine aw_aload_n dX1_takeRuns_52 2 rfl ?_
              refine aw_dup dX1_takeRuns_53 rfl ?_
              refine aw_getI dX1_takeRuns_54 fl_X1_21 (hD.1.s 8 (by decide)) (hD.1.n 8 (by decide)) ?_
              refine aw_topE hC.2.2.1 ?_
              refine aw_iconst (v := 1) dX1_takeRuns_57 (by decide) ?_
              refine aw_iaddN p 1 dX1_takeRuns_58 rfl rfl ?_
              refine aw_putI dX1_takeRuns_59 fl_X1_21 (Or.inl rfl) (hD.1.s 8 (by decide)) (hD.1.n 8 (by decide)) ?_
              refine aw_aload_n dX1_takeRuns_62 2 rfl ?_
              refine aw_aload_n dX1_takeRuns_63 3 rfl ?_
              refine aw_getI dX1_takeRuns_64 fl_X1_86 ((hD.i 2 (nI (p + 1))).1.rrow (t := t) ht12).1 ((hD.i 2 (nI (p + 1))).1.rrow (t := t) ht12).n0 ?_
              refine aw_topE ((congrFun (mI_stI_c _ _ _ (show 10 + 3 * t ≠ 8 by omega)) 0).trans hk) ?_
              refine aw_callVx [.int (nI k)] [] hq dX1_takeRuns_67 ml_X1_103 im_X1_takeNumber ((hD.i 2 (nI (p + 1))).1.s 8 (by decide)) ((hD.i 2 (nI (p + 1))).1.n 8 (by decide)) rfl rfl (dl1 (d := d) (by omega)) rfl rfl (Nat.le_of_ble_eq_true rfl) rfl rfl (Nat.zero_le _) (Nat.zero_le _) (fun r A1 hA1 => ?_)
              obtain ⟨rfl, hA1⟩ := hA1
              refine aw_cons ?_
              refine aw_if_ne 75 dX1_takeRuns_70 (by decide) (fun c5 => absurd rfl c5) (fun c5 => ?_)
              refine aw_iconst (v := 0) dX1_takeRuns_73 (by decide) ?_
              refine aw_zret dX1_takeRuns_74 rfl rfl (Nat.zero_le _) (Nat.zero_le _) ?_
              exact ⟨rfl, hC.1.e hA1, hA1.2.2.2⟩
            | ok vp =>
              rw [e] at hq
              dsimp only
              rw [eb, Nat.add_sub_cancel]
              have q := ih (j + 1) b0 vp.1 vp.2 (rSet R t j k vp.1) _ ((hC.v vp.1 vp.2).fill (w := k) ht (by omega) vp.1 (by omega)) (pNum_le e) ht hkt (by show rZ R t = _; omega) (fun _ => (congrFun (mL_stL_c _ _ _ (by omega)) 5).trans (vpM_v A vp.1 vp.2)) (by omega)
              refine aw_iload_n dX1_takeRuns_4 0 rfl ?_
              refine aw_aload_n dX1_takeRuns_5 3 rfl ?_
              refine aw_getI dX1_takeRuns_6 fl_X1_83 (hD.1.rrow (t := t) ht12).1 (hD.1.rrow (t := t) ht12).n0 ?_
              refine aw_topE hz ?_
              refine aw_icmp_geN j (j + (n + 1)) 97 dX1_takeRuns_9 (by decide) rfl rfl (by omega) (by omega) (fun c1 => absurd c1 (by omega)) (fun c1 => ?_)
              refine aw_iload_n dX1_takeRuns_12 1 rfl ?_
              refine aw_if_ne 75 dX1_takeRuns_13 (by decide) (fun c2 => absurd rfl c2) (fun c2 => ?_)
              refine aw_aload_n dX1_takeRuns_16 2 rfl ?_
              refine aw_getR (b := so) dX1_takeRuns_17 fl_X1_31 rfl (hD.1.s 8 (by decide)) (hD.1.n 8 (by decide)) hD.2.1 ?_
              refine aw_aload_n dX1_takeRuns_20 2 rfl ?_
              refine aw_getI dX1_takeRuns_21 fl_X1_21 (hD.1.s 8 (by decide)) (hD.1.n 8 (by decide)) ?_
              refine aw_topE hC.2.2.1 ?_
              refine aw_callVi [.int (nI p)] [] (sp_at (d := d - 1) hD cl) dX1_takeRuns_24 ml_X1_36 im_X3_at hD.2.2.1.1 hD.2.2.1.n0 rfl rfl (dl1 (d := d) (by omega)) rfl rfl (Nat.le_of_ble_eq_true rfl) rfl rfl (Nat.zero_le _) (Nat.zero_le _) ?_
              refine aw_topE (congrArg nI eb) ?_
              refine aw_istore_n [(2, .int (nI (b0 + 1))), (3, .int (nI j)), (0, .ref 8), (1, .ref (10 + 3 * t))] dX1_takeRuns_27 (Nat.le_of_ble_eq_true rfl) rfl ?_
              refine aw_iload_n dX1_takeRuns_28 0 rfl ?_
              refine aw_iconst (v := 1) dX1_takeRuns_29 (by decide) ?_
              refine aw_icmp_ltN (b0 + 1) 1 43 dX1_takeRuns_30 (by decide) rfl rfl (by omega) (by omega) (fun c3 => absurd c3 (by omega)) (fun c3 => ?_)
              refine aw_iload_n dX1_takeRuns_33 0 rfl ?_
              refine aw_aload_n dX1_takeRuns_34 3 rfl ?_
              refine aw_getI dX1_takeRuns_35 fl_X1_83 (hD.1.rrow (t := t) ht12).1 (hD.1.rrow (t := t) ht12).n0 ?_
              refine aw_topE hz ?_
              refine aw_iload_n dX1_takeRuns_38 1 rfl ?_
              refine aw_isubN (j + (n + 1)) j dX1_takeRuns_39 rfl rfl (by omega) ?_
              refine aw_icmp_leN (b0 + 1) ((j + (n + 1)) - j) 52 dX1_takeRuns_40 (by decide) rfl rfl (by omega) (by omega) (fun c4 => ?_) (fun c4 => absurd (by omega) c4)
              refine aw_aload_n dX1_takeRuns_52 2 rfl ?_
              refine aw_dup dX1_takeRuns_53 rfl ?_
              refine aw_getI dX1_takeRuns_54 fl_X1_21 (hD.1.s 8 (by decide)) (hD.1.n 8 (by decide)) ?_
              refine aw_topE hC.2.2.1 ?_
              refine aw_iconst (v := 1) dX1_takeRuns_57 (by decide) ?_
              refine aw_iaddN p 1 dX1_takeRuns_58 rfl rfl ?_
              refine aw_putI dX1_takeRuns_59 fl_X1_21 (Or.inl rfl) (hD.1.s 8 (by decide)) (hD.1.n 8 (by decide)) ?_
              refine aw_aload_n dX1_takeRuns_62 2 rfl ?_
              refine aw_aload_n dX1_takeRuns_63 3 rfl ?_
              refine aw_getI dX1_takeRuns_64 fl_X1_86 ((hD.i 2 (nI (p + 1))).1.rrow (t := t) ht12).1 ((hD.i 2 (nI (p + 1))).1.rrow (t := t) ht12).n0 ?_
              refine aw_topE ((congrFun (mI_stI_c _ _ _ (show 10 + 3 * t ≠ 8 by omega)) 0).trans hk) ?_
              refine aw_callVi [.int (nI k)] [] hq dX1_takeRuns_67 ml_X1_103 im_X1_takeNumber ((hD.i 2 (nI (p + 1))).1.s 8 (by decide)) ((hD.i 2 (nI (p + 1))).1.n 8 (by decide)) rfl rfl (dl1 (d := d) (by omega)) rfl rfl (Nat.le_of_ble_eq_true rfl) rfl rfl (Nat.zero_le _) (Nat.zero_le _) ?_
              refine aw_if_ne 75 dX1_takeRuns_70 (by decide) (fun c5 => ?_) (fun c5 => absurd c5 (by decide))
              refine aw_aload_n dX1_takeRuns_75 3 rfl ?_
              refine aw_iload_n dX1_takeRuns_76 1 rfl ?_
              refine aw_aload_n dX1_takeRuns_77 3 rfl ?_
              refine aw_getI dX1_takeRuns_78 fl_X1_86 ((hD.v vp.1 vp.2).1.rrow (t := t) ht12).1 ((hD.v vp.1 vp.2).1.rrow (t := t) ht12).n0 ?_
              refine aw_topE ((congrFun (vpM_I A (show 10 + 3 * t ≠ 8 by omega)) 0).trans hk) ?_
              refine aw_aload_n dX1_takeRuns_81 2 rfl ?_
              refine aw_getL dX1_takeRuns_82 fl_X1_27 ((hD.v vp.1 vp.2).1.s 8 (by decide)) ((hD.v vp.1 vp.2).1.n 8 (by decide)) ?_
              refine aw_toplE (vpM_v A vp.1 vp.2) ?_
              refine aw_callVv [.int (nI j), .int (nI k), .long vp.1] [] (sp_X2_fill (d := d - 1) (by omega) j (nI k) vp.1 ((hD.v vp.1 vp.2).1.rrow (t := t) ht12) (by omega)) dX1_takeRuns_85 ml_X1_96 im_X2_fill ((hD.v vp.1 vp.2).1.rrow (t := t) ht12).1 ((hD.v vp.1 vp.2).1.rrow (t := t) ht12).n0 rfl rfl (dl1 (d := d) (by omega)) rfl rfl (Nat.le_of_ble_eq_true rfl) rfl rfl (Nat.zero_le _) (Nat.zero_le _) ?_
              refine aw_iincN1 b0 [(2, .int (nI b0)), (3, .int (nI j)), (0, .ref 8), (1, .ref (10 + 3 * t))] dX1_takeRuns_88 0 rfl rfl (Nat.le_of_ble_eq_true rfl) rfl ?_
              refine aw_iincN j 1 [(3, .int (nI (j + 1))), (2, .int (nI b0)), (0, .ref 8), (1, .ref (10 + 3 * t))] dX1_takeRuns_91 1 rfl rfl rfl (Nat.le_of_ble_eq_true rfl) rfl ?_
              refine aw_goto 4 dX1_takeRuns_94 (by decide) ?_
              exact q
          · rw [if_neg (fun z => b2 z.2.2)]
            refine aw_iload_n dX1_takeRuns_4 0 rfl ?_
            refine aw_aload_n dX1_takeRuns_5 3 rfl ?_
            refine aw_getI dX1_takeRuns_6 fl_X1_83 (hD.1.rrow (t := t) ht12).1 (hD.1.rrow (t := t) ht12).n0 ?_
            refine aw_topE hz ?_
            refine aw_icmp_geN j (j + (n + 1)) 97 dX1_takeRuns_9 (by decide) rfl rfl (by omega) (by omega) (fun c1 => absurd c1 (by omega)) (fun c1 => ?_)
            refine aw_iload_n dX1_takeRuns_12 1 rfl ?_
            refine aw_if_ne 75 dX1_takeRuns_13 (by decide) (fun c2 => absurd rfl c2) (fun c2 => ?_)
            refine aw_aload_n dX1_takeRuns_16 2 rfl ?_
            refine aw_getR (b := so) dX1_takeRuns_17 fl_X1_31 rfl (hD.1.s 8 (by decide)) (hD.1.n 8 (by decide)) hD.2.1 ?_
            refine aw_aload_n dX1_takeRuns_20 2 rfl ?_
            refine aw_getI dX1_takeRuns_21 fl_X1_21 (hD.1.s 8 (by decide)) (hD.1.n 8 (by decide)) ?_
            refine aw_topE hC.2.2.1 ?_
            refine aw_callVi [.int (nI p)] [] (sp_at (d := d - 1) hD cl) dX1_takeRuns_24 ml_X1_36 im_X3_at hD.2.2.1.1 hD.2.2.1.n0 rfl rfl (dl1 (d := d) (by omega)) rfl rfl (Nat.le_of_ble_eq_true rfl) rfl rfl (Nat.zero_le _) (Nat.zero_le _) ?_
            refine aw_istore_n [(2, .int (nI (B p))), (3, .int (nI j)), (0, .ref 8), (1, .ref (10 + 3 * t))] dX1_takeRuns_27 (Nat.le_of_ble_eq_true rfl) rfl ?_
            refine aw_iload_n dX1_takeRuns_28 0 rfl ?_
            refine aw_iconst (v := 1) dX1_takeRuns_29 (by decide) ?_
            refine aw_icmp_ltN (B p) 1 43 dX1_takeRuns_30 (by decide) rfl rfl (by omega) (by omega) (fun c3 => absurd c3 (by omega)) (fun c3 => ?_)
            refine aw_iload_n dX1_takeRuns_33 0 rfl ?_
            refine aw_aload_n dX1_takeRuns_34 3 rfl ?_
            refine aw_getI dX1_takeRuns_35 fl_X1_83 (hD.1.rrow (t := t) ht12).1 (hD.1.rrow (t := t) ht12).n0 ?_
            refine aw_topE hz ?_
            refine aw_iload_n dX1_takeRuns_38 1 rfl ?_
            refine aw_isubN (j + (n + 1)) j dX1_takeRuns_39 rfl rfl (by omega) ?_
            refine aw_icmp_leN (B p) ((j + (n + 1)) - j) 52 dX1_takeRuns_40 (by decide) rfl rfl (by omega) (by omega) (fun c4 => absurd c4 (by omega)) (fun c4 => ?_)
            refine aw_aload_n dX1_takeRuns_43 2 rfl ?_
            refine aw_aload_n dX1_takeRuns_44 2 rfl ?_
            refine aw_getI dX1_takeRuns_45 fl_X1_21 (hD.1.s 8 (by decide)) (hD.1.n 8 (by decide)) ?_
            refine aw_topE hC.2.2.1 ?_
            refine aw_callVi [.int (nI p)] [] (sp_X1_failAt (d := d - 1) (nI p) hD.1) dX1_takeRuns_48 ml_X1_49 im_X1_failAt (hD.1.s 8 (by decide)) (hD.1.n 8 (by decide)) rfl rfl (dl1 (d := d) (by omega)) rfl rfl (Nat.le_of_ble_eq_true rfl) rfl rfl (Nat.zero_le _) (Nat.zero_le _) ?_
            refine aw_zret dX1_takeRuns_51 rfl rfl (Nat.zero_le _) (Nat.zero_le _) ?_
            exact ⟨rfl, hC.1.i 3 (nI p), mI_stI_v _ _ _ _⟩
        · rw [if_neg (fun z => b1 z.2.1)]
          refine aw_iload_n dX1_takeRuns_4 0 rfl ?_
          refine aw_aload_n dX1_takeRuns_5 3 rfl ?_
          refine aw_getI dX1_takeRuns_6 fl_X1_83 (hD.1.rrow (t := t) ht12).1 (hD.1.rrow (t := t) ht12).n0 ?_
          refine aw_topE hz ?_
          refine aw_icmp_geN j (j + (n + 1)) 97 dX1_takeRuns_9 (by decide) rfl rfl (by omega) (by omega) (fun c1 => absurd c1 (by omega)) (fun c1 => ?_)
          refine aw_iload_n dX1_takeRuns_12 1 rfl ?_
          refine aw_if_ne 75 dX1_takeRuns_13 (by decide) (fun c2 => absurd rfl c2) (fun c2 => ?_)
          refine aw_aload_n dX1_takeRuns_16 2 rfl ?_
          refine aw_getR (b := so) dX1_takeRuns_17 fl_X1_31 rfl (hD.1.s 8 (by decide)) (hD.1.n 8 (by decide)) hD.2.1 ?_
          refine aw_aload_n dX1_takeRuns_20 2 rfl ?_
          refine aw_getI dX1_takeRuns_21 fl_X1_21 (hD.1.s 8 (by decide)) (hD.1.n 8 (by decide)) ?_
          refine aw_topE hC.2.2.1 ?_
          refine aw_callVi [.int (nI p)] [] (sp_at (d := d - 1) hD cl) dX1_takeRuns_24 ml_X1_36 im_X3_at hD.2.2.1.1 hD.2.2.1.n0 rfl rfl (dl1 (d := d) (by omega)) rfl rfl (Nat.le_of_ble_eq_true rfl) rfl rfl (Nat.zero_le _) (Nat.zero_le _) ?_
          refine aw_istore_n [(2, .int (nI (B p))), (3, .int (nI j)), (0, .ref 8), (1, .ref (10 + 3 * t))] dX1_takeRuns_27 (Nat.le_of_ble_eq_true rfl) rfl ?_
          refine aw_iload_n dX1_takeRuns_28 0 rfl ?_
          refine aw_iconst (v := 1) dX1_takeRuns_29 (by decide) ?_
          refine aw_icmp_ltN (B p) 1 43 dX1_takeRuns_30 (by decide) rfl rfl (by omega) (by omega) (fun c3 => ?_) (fun c3 => absurd (by omega) c3)
          refine aw_aload_n dX1_takeRuns_43 2 rfl ?_
          refine aw_aload_n dX1_takeRuns_44 2 rfl ?_
          refine aw_getI dX1_takeRuns_45 fl_X1_21 (hD.1.s 8 (by decide)) (hD.1.n 8 (by decide)) ?_
          refine aw_topE hC.2.2.1 ?_
          refine aw_callVi [.int (nI p)] [] (sp_X1_failAt (d := d - 1) (nI p) hD.1) dX1_takeRuns_48 ml_X1_49 im_X1_failAt (hD.1.s 8 (by decide)) (hD.1.n 8 (by decide)) rfl rfl (dl1 (d := d) (by omega)) rfl rfl (Nat.le_of_ble_eq_true rfl) rfl rfl (Nat.zero_le _) (Nat.zero_le _) ?_
          refine aw_zret dX1_takeRuns_51 rfl rfl (Nat.zero_le _) (Nat.zero_le _) ?_
          exact ⟨rfl, hC.1.i 3 (nI p), mI_stI_v _ _ _ _⟩
      · rw [if_neg (fun z => cl z.1)]
        refine aw_iload_n dX1_takeRuns_4 0 rfl ?_
        refine aw_aload_n dX1_takeRuns_5 3 rfl ?_
        refine aw_getI dX1_takeRuns_6 fl_X1_83 (hD.1.rrow (t := t) ht12).1 (hD.1.rrow (t := t) ht12).n0 ?_
        refine aw_topE hz ?_
        refine aw_icmp_geN j (j + (n + 1)) 97 dX1_takeRuns_9 (by decide) rfl rfl (by omega) (by omega) (fun c1 => absurd c1 (by omega)) (fun c1 => ?_)
        refine aw_iload_n dX1_takeRuns_12 1 rfl ?_
        refine aw_if_ne 75 dX1_takeRuns_13 (by decide) (fun c2 => absurd rfl c2) (fun c2 => ?_)
        refine aw_aload_n dX1_takeRuns_16 2 rfl ?_
        refine aw_getR (b := so) dX1_takeRuns_17 fl_X1_31 rfl (hD.1.s 8 (by decide)) (hD.1.n 8 (by decide)) hD.2.1 ?_
        refine aw_aload_n dX1_takeRuns_20 2 rfl ?_
        refine aw_getI dX1_takeRuns_21 fl_X1_21 (hD.1.s 8 (by decide)) (hD.1.n 8 (by decide)) ?_
        refine aw_topE hC.2.2.1 ?_
        refine aw_callVi [.int (nI p)] [] (sp_atn (d := d - 1) hD cl (by omega)) dX1_takeRuns_24 ml_X1_36 im_X3_at hD.2.2.1.1 hD.2.2.1.n0 rfl rfl (dl1 (d := d) (by omega)) rfl rfl (Nat.le_of_ble_eq_true rfl) rfl rfl (Nat.zero_le _) (Nat.zero_le _) ?_
        refine aw_istore_n [(2, .int (-1)), (3, .int (nI j)), (0, .ref 8), (1, .ref (10 + 3 * t))] dX1_takeRuns_27 (Nat.le_of_ble_eq_true rfl) rfl ?_
        refine aw_iload_n dX1_takeRuns_28 0 rfl ?_
        refine aw_iconst (v := 1) dX1_takeRuns_29 (by decide) ?_
        refine aw_icmp_lt 43 dX1_takeRuns_30 (by decide) (fun c3 => ?_) (fun c3 => absurd (by decide) c3)
        refine aw_aload_n dX1_takeRuns_43 2 rfl ?_
        refine aw_aload_n dX1_takeRuns_44 2 rfl ?_
        refine aw_getI dX1_takeRuns_45 fl_X1_21 (hD.1.s 8 (by decide)) (hD.1.n 8 (by decide)) ?_
        refine aw_topE hC.2.2.1 ?_
        refine aw_callVi [.int (nI p)] [] (sp_X1_failAt (d := d - 1) (nI p) hD.1) dX1_takeRuns_48 ml_X1_49 im_X1_failAt (hD.1.s 8 (by decide)) (hD.1.n 8 (by decide)) rfl rfl (dl1 (d := d) (by omega)) rfl rfl (Nat.le_of_ble_eq_true rfl) rfl rfl (Nat.zero_le _) (Nat.zero_le _) ?_
        refine aw_zret dX1_takeRuns_51 rfl rfl (Nat.zero_le _) (Nat.zero_le _) ?_
        exact ⟨rfl, hC.1.i 3 (nI p), mI_stI_v _ _ _ _⟩
def pElem (B : Nat → Nat) (L : Nat) (R : pR) (k b p : Nat) : pV := if b = 8 then pWord B L p else if b = 9 then pBead B L (if k = 11 then 3 else 0) p else if b = 10 then pLink B L (rK R) R.1 k p else if b = 11 then .ok (0, p) else pNum B L b p
theorem sp_te {d : Nat} (hd : 4 ≤ d) {M0 A : xM} {so N : Nat} {B : Nat → Nat} {L k b p : Nat} {R : pR} (hS : RdS M0 so N B L) (hC : CS M0 p R A) (hpl : p + 1 ≤ L) (hk : k < 16) (hb : b < 12) : Sp (fX1_takeElement d) [.ref 8, .int (nI k), .int (nI b)] A (PL A (pElem B L R k b (p + 1))) := by
  refine Sp.of pn_X1 (Nat.le_of_ble_eq_true rfl) (fun h => Bool.noConfusion h) ?_
  have hL1 := hS.2.2.2.1
  have hL2 := hS.2.2.2.2.1
  have hD := hC.1.D hS
  have hD1 := hD.i 2 (nI (p + 1))
  have hu2 := hC.2.2.2.2.1
  have hp1 : mI (stI A 8 2 (nI (p + 1))) 8 2 = nI (p + 1) := mI_stI_v _ _ _ _
  have hcs : b = 8 ∨ b = 9 ∨ b = 10 ∨ b = 11 ∨ b < 8 := by omega
  unfold pElem
  rcases hcs with rfl | rfl | rfl | rfl | c8
  · rw [if_pos rfl]
    refine aw_aload_n dX1_takeElement_0 0 rfl ?_
    refine aw_dup dX1_takeElement_1 rfl ?_
    refine aw_getI dX1_takeElement_2 fl_X1_21 (hD.1.s 8 (by decide)) (hD.1.n 8 (by decide)) ?_
    refine aw_topE hC.2.2.1 ?_
    refine aw_iconst (v := 1) dX1_takeElement_5 (by decide) ?_
    refine aw_iaddN p 1 dX1_takeElement_6 rfl rfl ?_
    refine aw_putI dX1_takeElement_7 fl_X1_21 (Or.inl rfl) (hD.1.s 8 (by decide)) (hD.1.n 8 (by decide)) ?_
    refine aw_iload_n dX1_takeElement_10 2 rfl ?_
    refine aw_tableIn 40 dX1_takeElement_11 (by decide) (by decide) rfl (by decide) ?_
    refine aw_aload_n dX1_takeElement_40 0 rfl ?_
    refine aw_callVx [] [] (sp_tw (d := d - 1) (by omega) hD1 hp1 hpl) dX1_takeElement_41 ml_X1_52 im_X1_takeWord (hD1.1.s 8 (by decide)) (hD1.1.n 8 (by decide)) rfl rfl (dl1 (d := d) (by omega)) rfl rfl (Nat.le_of_ble_eq_true rfl) rfl rfl (Nat.zero_le _) (Nat.zero_le _) (fun r A1 hA1 => ?_)
    obtain ⟨b1, eb1⟩ := PL_b hA1
    rw [eb1] at hA1 ⊢
    refine aw_cons ?_
    refine aw_zret dX1_takeElement_44 rfl narrow_bz (Nat.zero_le _) (Nat.zero_le _) ?_
    exact PL_i hA1
  · rw [if_neg (by decide), if_pos rfl]
    by_cases k11 : k = 11
    · rw [if_pos k11]
      skip
      refine aw_aload_n dX1_takeElement_0 0 rfl ?_
      refine aw_dup dX1_takeElement_1 rfl ?_
      refine aw_getI dX1_takeElement_2 fl_X1_21 (hD.1.s 8 (by decide)) (hD.1.n 8 (by decide)) ?_
      refine aw_topE hC.2.2.1 ?_
      refine aw_iconst (v := 1) dX1_takeElement_5 (by decide) ?_
      refine aw_iaddN p 1 dX1_takeElement_6 rfl rfl ?_
      refine aw_putI dX1_takeElement_7 fl_X1_21 (Or.inl rfl) (hD.1.s 8 (by decide)) (hD.1.n 8 (by decide)) ?_
      refine aw_iload_n dX1_takeElement_10 2 rfl ?_
      refine aw_tableIn 45 dX1_takeElement_11 (by decide) (by decide) rfl (by decide) ?_
      refine aw_aload_n dX1_takeElement_45 0 rfl ?_
      refine aw_iload_n dX1_takeElement_46 1 rfl ?_
      refine aw_bipush (v := 11) dX1_takeElement_47 (by decide) ?_
      refine aw_icmp_neN k 11 56 dX1_takeElement_49 (by decide) rfl rfl (by omega) (by omega) (fun c1 => absurd k11 c1) (fun c1 => ?_)
      refine aw_iconst (v := 3) dX1_takeElement_52 (by decide) ?_
      refine aw_goto 57 dX1_takeElement_53 (by decide) ?_
      refine aw_callVx [.int 3] [] (sp_tb (d := d - 1) (a := 3) (by omega) hD1 hp1 hpl (by decide)) dX1_takeElement_57 ml_X1_56 im_X1_takeBead (hD1.1.s 8 (by decide)) (hD1.1.n 8 (by decide)) rfl rfl (dl1 (d := d) (by omega)) rfl rfl (Nat.le_of_ble_eq_true rfl) rfl rfl (Nat.zero_le _) (Nat.zero_le _) (fun r A1 hA1 => ?_)
      obtain ⟨b1, eb1⟩ := PL_b hA1
      rw [eb1] at hA1 ⊢
      refine aw_cons ?_
      refine aw_zret dX1_takeElement_60 rfl narrow_bz (Nat.zero_le _) (Nat.zero_le _) ?_
      exact PL_i hA1
    · rw [if_neg k11]
      skip
      refine aw_aload_n dX1_takeElement_0 0 rfl ?_
      refine aw_dup dX1_takeElement_1 rfl ?_
      refine aw_getI dX1_takeElement_2 fl_X1_21 (hD.1.s 8 (by decide)) (hD.1.n 8 (by decide)) ?_
      refine aw_topE hC.2.2.1 ?_
      refine aw_iconst (v := 1) dX1_takeElement_5 (by decide) ?_
      refine aw_iaddN p 1 dX1_takeElement_6 rfl rfl ?_
      refine aw_putI dX1_takeElement_7 fl_X1_21 (Or.inl rfl) (hD.1.s 8 (by decide)) (hD.1.n 8 (by decide)) ?_
      refine aw_iload_n dX1_takeElement_10 2 rfl ?_
      refine aw_tableIn 45 dX1_takeElement_11 (by decide) (by decide) rfl (by decide) ?_
      refine aw_aload_n dX1_takeElement_45 0 rfl ?_
      refine aw_iload_n dX1_takeElement_46 1 rfl ?_
      refine aw_bipush (v := 11) dX1_takeElement_47 (by decide) ?_
      refine aw_icmp_neN k 11 56 dX1_takeElement_49 (by decide) rfl rfl (by omega) (by omega) (fun c1 => ?_) (fun c1 => absurd c1 k11)
      refine aw_iconst (v := 0) dX1_takeElement_56 (by decide) ?_
      refine aw_callVx [.int 0] [] (sp_tb (d := d - 1) (a := 0) (by omega) hD1 hp1 hpl (by decide)) dX1_takeElement_57 ml_X1_56 im_X1_takeBead (hD1.1.s 8 (by decide)) (hD1.1.n 8 (by decide)) rfl rfl (dl1 (d := d) (by omega)) rfl rfl (Nat.le_of_ble_eq_true rfl) rfl rfl (Nat.zero_le _) (Nat.zero_le _) (fun r A1 hA1 => ?_)
      obtain ⟨b1, eb1⟩ := PL_b hA1
      rw [eb1] at hA1 ⊢
      refine aw_cons ?_
      refine aw_zret dX1_takeElement_60 rfl narrow_bz (Nat.zero_le _) (Nat.zero_le _) ?_
      exact PL_i hA1
  · rw [if_neg (by decide), if_neg (by decide), if_pos rfl]
    refine aw_aload_n dX1_takeElement_0 0 rfl ?_
    refine aw_dup dX1_takeElement_1 rfl ?_
    refine aw_getI dX1_takeElement_2 fl_X1_21 (hD.1.s 8 (by decide)) (hD.1.n 8 (by decide)) ?_
    refine aw_topE hC.2.2.1 ?_
    refine aw_iconst (v := 1) dX1_takeElement_5 (by decide) ?_
    refine aw_iaddN p 1 dX1_takeElement_6 rfl rfl ?_
    refine aw_putI dX1_takeElement_7 fl_X1_21 (Or.inl rfl) (hD.1.s 8 (by decide)) (hD.1.n 8 (by decide)) ?_
    refine aw_iload_n dX1_takeElement_10 2 rfl ?_
    refine aw_tableIn 61 dX1_takeElement_11 (by decide) (by decide) rfl (by decide) ?_
    refine aw_aload_n dX1_takeElement_61 0 rfl ?_
    refine aw_iload_n dX1_takeElement_62 1 rfl ?_
    refine aw_callVx [.int (nI k)] [] (sp_tl (d := d - 1) (K := rK R) (by omega) hD1 hp1 hpl hk ((mI_stI_o _ _ _ _ (by decide)).trans hC.2.1) hu2 (fun n hn => ⟨(congrFun (mI_stI_c _ _ _ (show 10 + 3 * n ≠ 8 by omega)) 0).trans (hC.2.2.2.2.2 n hn).2.2.1, (hC.2.2.2.2.2 n hn).1⟩)) dX1_takeElement_63 ml_X1_100 im_X1_takeBackLink (hD1.1.s 8 (by decide)) (hD1.1.n 8 (by decide)) rfl rfl (dl1 (d := d) (by omega)) rfl rfl (Nat.le_of_ble_eq_true rfl) rfl rfl (Nat.zero_le _) (Nat.zero_le _) (fun r A1 hA1 => ?_)
    obtain ⟨b1, eb1⟩ := PL_b hA1
    rw [eb1] at hA1 ⊢
    refine aw_cons ?_
    refine aw_zret dX1_takeElement_66 rfl narrow_bz (Nat.zero_le _) (Nat.zero_le _) ?_
    exact PL_i hA1
  · rw [if_neg (by decide), if_neg (by decide), if_neg (by decide), if_pos rfl]
    refine aw_aload_n dX1_takeElement_0 0 rfl ?_
    refine aw_dup dX1_takeElement_1 rfl ?_
    refine aw_getI dX1_takeElement_2 fl_X1_21 (hD.1.s 8 (by decide)) (hD.1.n 8 (by decide)) ?_
    refine aw_topE hC.2.2.1 ?_
    refine aw_iconst (v := 1) dX1_takeElement_5 (by decide) ?_
    refine aw_iaddN p 1 dX1_takeElement_6 rfl rfl ?_
    refine aw_putI dX1_takeElement_7 fl_X1_21 (Or.inl rfl) (hD.1.s 8 (by decide)) (hD.1.n 8 (by decide)) ?_
    refine aw_iload_n dX1_takeElement_10 2 rfl ?_
    refine aw_tableIn 67 dX1_takeElement_11 (by decide) (by decide) rfl (by decide) ?_
    refine aw_aload_n dX1_takeElement_67 0 rfl ?_
    refine aw_lconst (v := 0) dX1_takeElement_68 (by decide) ?_
    refine aw_putL dX1_takeElement_69 fl_X1_27 (Or.inl rfl) (hD1.1.s 8 (by decide)) (hD1.1.n 8 (by decide)) ?_
    refine aw_iconst (v := 1) dX1_takeElement_72 (by decide) ?_
    refine aw_zret dX1_takeElement_73 rfl rfl (Nat.zero_le _) (Nat.zero_le _) ?_
    exact ⟨rfl, rfl⟩
  · rw [if_neg (by omega), if_neg (by omega), if_neg (by omega), if_neg (by omega)]
    refine aw_aload_n dX1_takeElement_0 0 rfl ?_
    refine aw_dup dX1_takeElement_1 rfl ?_
    refine aw_getI dX1_takeElement_2 fl_X1_21 (hD.1.s 8 (by decide)) (hD.1.n 8 (by decide)) ?_
    refine aw_topE hC.2.2.1 ?_
    refine aw_iconst (v := 1) dX1_takeElement_5 (by decide) ?_
    refine aw_iaddN p 1 dX1_takeElement_6 rfl rfl ?_
    refine aw_putI dX1_takeElement_7 fl_X1_21 (Or.inl rfl) (hD.1.s 8 (by decide)) (hD.1.n 8 (by decide)) ?_
    refine aw_iload_n dX1_takeElement_10 2 rfl ?_
    refine aw_tableOut 74 dX1_takeElement_11 (by rw [nI_toInt (by omega)]; omega) (by decide) ?_
    refine aw_aload_n dX1_takeElement_74 0 rfl ?_
    refine aw_iload_n dX1_takeElement_75 2 rfl ?_
    refine aw_callVx [.int (nI b)] [] (sp_tn (d := d - 1) (by omega) hD1 hp1 hpl c8) dX1_takeElement_76 ml_X1_103 im_X1_takeNumber (hD1.1.s 8 (by decide)) (hD1.1.n 8 (by decide)) rfl rfl (dl1 (d := d) (by omega)) rfl rfl (Nat.le_of_ble_eq_true rfl) rfl rfl (Nat.zero_le _) (Nat.zero_le _) (fun r A1 hA1 => ?_)
    obtain ⟨b1, eb1⟩ := PL_b hA1
    rw [eb1] at hA1 ⊢
    refine aw_cons ?_
    refine aw_zret dX1_takeElement_79 rfl narrow_bz (Nat.zero_le _) (Nat.zero_le _) ?_
    exact PL_i hA1
