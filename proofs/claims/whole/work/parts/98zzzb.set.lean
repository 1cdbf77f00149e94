-- SETTLE AND NEWS, READ BY OUTCOME
theorem emp_k {A : xM} {a k : Nat} (h : mI A a 0 = nI k) (hk : k < 16) : sX2_isEmpty A a = false := by
  have hd := kdI_dec k hk
  unfold sX2_isEmpty
  rw [h]
  simp [hd.1]
theorem emp_c {A M : xM} {a : Nat} (h : mI A a = mI M a) : sX2_isEmpty A a = sX2_isEmpty M a := by
  unfold sX2_isEmpty
  rw [h]
theorem SeC.low {M0 A : xM} {h K Z : Nat → Nat} {W : Nat → Nat → Nat} {V : Nat → Nat → Int64} {n k : Nat} {E : Nat → Bool} (hs : SeC M0 h K Z W V 0 k A) (hE : ∀ t, t < 12 → cEmp M0 t = E t) (hok : srcOk n K Z W V) (hh : isHom E n h) (hk : k < n) : sX5_lowestEmpty A = nI (h k) := by
  rw [← (hh k hk).2.2.2]
  unfold sX5_lowestEmpty
  refine lst_congr 12 0 (fun t _ ht => ?_)
  unfold nEm
  rcases hom_dec h t k with ⟨i, i1, rfl⟩ | q
  · rw [decide_eq_false (fun z => z i i1 rfl), Bool.and_false]
    exact emp_k (hs.2.2.2.2.1 i i1).1 (hok.2 i (by omega)).1
  · rw [decide_eq_true q, Bool.and_true, ← hE t (by omega)]
    exact emp_c (hs.2.2.2.1 t (by omega) q).1
theorem SeR.low {M0 A : xM} {s h K Z : Nat → Nat} {W : Nat → Nat → Nat} {V : Nat → Nat → Int64} {n k : Nat} {E : Nat → Bool} (hs : SeR M0 s h K Z W V 0 0 k A) (hE : ∀ t, t < 12 → rEmp M0 t = E t) (hok : srcOk n K Z W V) (hh : isHom E n h) (hk : k < n) : sX6_free A = nI (h k) := by
  rw [← (hh k hk).2.2.2]
  unfold sX6_free
  refine lst_congr 12 0 (fun t _ ht => ?_)
  unfold nEm
  rcases hom_dec h t k with ⟨i, i1, rfl⟩ | q
  · rw [decide_eq_false (fun z => z i i1 rfl), Bool.and_false]
    have hk16 := (hok.2 i (by omega)).1
    show decide (mI A 1 (h i) < 0) = false
    rw [(hs.2.2.2.2.2.2 i i1).1, decide_eq_false (nI_nn (by omega))]
  · rw [decide_eq_true q, Bool.and_true, ← hE t (by omega)]
    show decide (mI A 1 t < 0) = decide (mI M0 1 t < 0)
    rw [(hs.2.2.2.2.2.1 t (by omega) q).1]
theorem lp_se1 {d : Nat} (hd : 4 ≤ d) {M0 : xM} {R : pR} {h : Nat → Nat} {E : Nat → Bool} (hR : CSr R M0) (hu : mI M0 8 1 = nI R.1) (hE : ∀ t, t < 12 → cEmp M0 t = E t) (hok : srcOk R.1 (rK R) (rZ R) (rW R) (rV R)) (hh : isHom E R.1 h) {post : Option Value → xM → Prop} (kk : ∀ A, SeC M0 h (rK R) (rZ R) (rW R) (rV R) 0 R.1 A → AW (fX5_settle d) 76 [(1, .int (nI R.1)), (0, .ref 0)] [] A 0 0 post) : ∀ c k (A : xM), k + c = R.1 → SeC M0 h (rK R) (rZ R) (rW R) (rV R) 0 k A → AW (fX5_settle d) 22 [(1, .int (nI k)), (0, .ref 0)] [] A 0 0 post := by
  have hR12 := hR.1
  intro c
  induction c with
  | zero =>
    intro k A hk hA
    obtain rfl : k = R.1 := by omega
    refine aw_iload_n dX5_settle_22 0 rfl ?_
    refine aw_aload_n dX5_settle_23 1 rfl ?_
    refine aw_getR (b := 8) dX5_settle_24 fl_X5_35 rfl (hA.1.s 0 (by decide)) (hA.1.n 0 (by decide)) (hA.1.r 0 4 (by decide) (by decide)) ?_
    refine aw_getI dX5_settle_27 fl_X5_319 (hA.1.s 8 (by decide)) (hA.1.n 8 (by decide)) ?_
    refine aw_topE ((congrFun (hA.2.1 8 (by decide)) 1).trans hu) ?_
    refine aw_icmp_geN R.1 R.1 76 dX5_settle_30 (by decide) rfl rfl (by omega) (by omega) (fun c1 => ?_) (fun c1 => absurd (by omega) c1)
    exact kk A hA
  | succ c ih =>
    intro k A hk hA
    have hkR : k < R.1 := by omega
    obtain ⟨h12, -, hne, -⟩ := hh k hkR
    have hlow := hA.low hE hok hh hkR
    have hT1 : TC (stI A 52 k (nI (h k))) := (sT.I A 52 k _).TC hA.1
    have hS2 := hA.add hR hkR h12 hne
    refine aw_iload_n dX5_settle_22 0 rfl ?_
    refine aw_aload_n dX5_settle_23 1 rfl ?_
    refine aw_getR (b := 8) dX5_settle_24 fl_X5_35 rfl (hA.1.s 0 (by decide)) (hA.1.n 0 (by decide)) (hA.1.r 0 4 (by decide) (by decide)) ?_
    refine aw_getI dX5_settle_27 fl_X5_319 (hA.1.s 8 (by decide)) (hA.1.n 8 (by decide)) ?_
    refine aw_topE ((congrFun (hA.2.1 8 (by decide)) 1).trans hu) ?_
    refine aw_icmp_geN k R.1 76 dX5_settle_30 (by decide) rfl rfl (by omega) (by omega) (fun c1 => absurd c1 (by omega)) (fun c1 => ?_)
    refine aw_aload_n dX5_settle_33 1 rfl ?_
    refine aw_callVi [] [] (sp_X5_lowestEmpty (d := d - 1) (by omega) hA.1) dX5_settle_34 ml_X5_82 im_X5_lowestEmpty (hA.1.s 0 (by decide)) (hA.1.n 0 (by decide)) rfl rfl (dl1 (d := d) (by omega)) rfl rfl (Nat.le_of_ble_eq_true rfl) rfl rfl (Nat.zero_le _) (Nat.zero_le _) ?_
    refine aw_topE hlow ?_
    refine aw_istore_n [(2, .int (nI (h k))), (1, .int (nI k)), (0, .ref 0)] dX5_settle_37 (Nat.le_of_ble_eq_true rfl) rfl ?_
    refine aw_iload_n dX5_settle_38 0 rfl ?_
    refine aw_if_ge 45 dX5_settle_39 (by decide) (fun c2 => ?_) (fun c2 => absurd (Int32.not_lt.mp (nI_nn (by omega))) c2)
    refine aw_aload_n dX5_settle_45 2 rfl ?_
    refine aw_getR (b := 52) dX5_settle_46 fl_X5_57 rfl (hA.1.s 0 (by decide)) (hA.1.n 0 (by decide)) (hA.1.r 0 8 (by decide) (by decide)) ?_
    refine aw_iload_n dX5_settle_49 1 rfl ?_
    refine aw_iload_n dX5_settle_50 0 rfl ?_
    refine aw_iastN k dX5_settle_51 (hA.1.s 52 (by decide)) (hA.1.n 52 (by decide)) rfl (by omega) (by first | decide | omega) ?_
    refine aw_aload_n dX5_settle_52 2 rfl ?_
    refine aw_getR (b := 1) dX5_settle_53 fl_X5_11 rfl (hT1.s 0 (by decide)) (hT1.n 0 (by decide)) (hT1.r 0 0 (by decide) (by decide)) ?_
    refine aw_iload_n dX5_settle_56 0 rfl ?_
    refine aw_aaldN (h k) (54 + 3 * (h k)) dX5_settle_57 (hT1.s 1 (by decide)) (hT1.n 1 (by decide)) rfl (by omega) (by first | decide | omega) (hT1.slot (by omega)) ?_
    refine aw_aload_n dX5_settle_58 2 rfl ?_
    refine aw_getR (b := 8) dX5_settle_59 fl_X5_35 rfl (hT1.s 0 (by decide)) (hT1.n 0 (by decide)) (hT1.r 0 4 (by decide) (by decide)) ?_
    refine aw_getR (b := 9) dX5_settle_62 fl_X5_51 rfl (hT1.s 8 (by decide)) (hT1.n 8 (by decide)) (hT1.r 8 0 (by decide) (by decide)) ?_
    refine aw_iload_n dX5_settle_65 1 rfl ?_
    refine aw_aaldN k (10 + 3 * k) dX5_settle_66 (hT1.s 9 (by decide)) (hT1.n 9 (by decide)) rfl (by omega) (by first | decide | omega) (hT1.rslot (by omega)) ?_
    refine aw_callVv [.ref (10 + 3 * k)] [] (sp_X2_beLike (d := d - 1) (by omega) (10 + 3 * k) (hT1.row h12) (hT1.rrow (by omega))) dX5_settle_67 ml_X5_127 im_X2_beLike (hT1.row (t := (h k)) (by omega)).1 (hT1.row (t := (h k)) (by omega)).n0 rfl rfl (dl1 (d := d) (by omega)) rfl rfl (Nat.le_of_ble_eq_true rfl) rfl rfl (Nat.zero_le _) (Nat.zero_le _) ?_
    refine aw_iincN k 1 [(1, .int (nI (k + 1))), (2, .int (nI (h k))), (0, .ref 0)] dX5_settle_70 1 rfl rfl rfl (Nat.le_of_ble_eq_true rfl) rfl ?_
    refine aw_goto 22 dX5_settle_73 (by decide) ?_
    refine aw_sub [0, 2] rfl ?_
    exact ih (k + 1) (tX2_beLike (stI A 52 k (nI (h k))) (54 + 3 * h k) (10 + 3 * k)) (by omega) hS2
theorem lp_se2 {d : Nat} (hd : 4 ≤ d) {M0 : xM} {R : pR} {h : Nat → Nat} (hu : mI M0 8 1 = nI R.1) (hn0 : 0 < R.1) (hok : srcOk R.1 (rK R) (rZ R) (rW R) (rV R)) (h1 : ∀ i, i < R.1 → h i < 12) (h2 : ∀ i j, i < R.1 → j < R.1 → i ≠ j → h i ≠ h j) : ∀ c m (A : xM), m + c = R.1 → SeC M0 h (rK R) (rZ R) (rW R) (rV R) m R.1 A → AW (fX5_settle d) 78 [(1, .int (nI m)), (0, .ref 0)] [] A 0 0 (fun r B => r = some (.int (nI (h 0))) ∧ SeC M0 h (rK R) (rZ R) (rW R) (rV R) R.1 R.1 B) := by
  have hR12 := hok.1
  intro c
  induction c with
  | zero =>
    intro m A hm hA
    obtain rfl : m = R.1 := by omega
    refine aw_iload_n dX5_settle_78 0 rfl ?_
    refine aw_aload_n dX5_settle_79 1 rfl ?_
    refine aw_getR (b := 8) dX5_settle_80 fl_X5_35 rfl (hA.1.s 0 (by decide)) (hA.1.n 0 (by decide)) (hA.1.r 0 4 (by decide) (by decide)) ?_
    refine aw_getI dX5_settle_83 fl_X5_319 (hA.1.s 8 (by decide)) (hA.1.n 8 (by decide)) ?_
    refine aw_topE ((congrFun (hA.2.1 8 (by decide)) 1).trans hu) ?_
    refine aw_icmp_geN R.1 R.1 113 dX5_settle_86 (by decide) rfl rfl (by omega) (by omega) (fun c1 => ?_) (fun c1 => absurd (by omega) c1)
    refine aw_aload_n dX5_settle_113 1 rfl ?_
    refine aw_getR (b := 52) dX5_settle_114 fl_X5_57 rfl (hA.1.s 0 (by decide)) (hA.1.n 0 (by decide)) (hA.1.r 0 8 (by decide) (by decide)) ?_
    refine aw_iconst (v := 0) dX5_settle_117 (by decide) ?_
    refine aw_ialdN 0 dX5_settle_118 (hA.1.s 52 (by decide)) (hA.1.n 52 (by decide)) rfl (by omega) (by first | decide | omega) ?_
    refine aw_topE (hA.2.2.1 0 (by omega)) ?_
    refine aw_iret dX5_settle_119 rfl (Nat.zero_le _) (Nat.zero_le _) ?_
    exact ⟨rfl, hA⟩
  | succ c ih =>
    intro m A hm hA
    have hmR : m < R.1 := by omega
    have h12 := h1 m hmR
    obtain ⟨o1, o2, o3, o4⟩ := hok.2 m hmR
    obtain ⟨g1, g2, g3, g4⟩ := hA.2.2.2.2.1 m hmR
    have hS2 := hA.rel hok hmR h1 h2
    have hl : ∀ k, k < rZ R m → mI A (54 + 3 * h m + 1) k = 10 → vp_in (mL A (54 + 3 * h m + 2) k).toInt32 12 := fun k hk z => by
      obtain ⟨p1, p2⟩ := o4 k hk
      rw [(g4 k hk).1] at z
      obtain ⟨u, u1, u2⟩ := p2 (nI_inj (by omega) (by decide) (z.trans (show (10 : Int32) = nI 10 from rfl)))
      rw [(g4 k hk).2, show vL h (rW R) (rV R) m m k = rV R m k from if_neg (by omega), u2, l32 (by omega)]
      exact vp_in_nI (by omega) (by decide)
    refine aw_iload_n dX5_settle_78 0 rfl ?_
    refine aw_aload_n dX5_settle_79 1 rfl ?_
    refine aw_getR (b := 8) dX5_settle_80 fl_X5_35 rfl (hA.1.s 0 (by decide)) (hA.1.n 0 (by decide)) (hA.1.r 0 4 (by decide) (by decide)) ?_
    refine aw_getI dX5_settle_83 fl_X5_319 (hA.1.s 8 (by decide)) (hA.1.n 8 (by decide)) ?_
    refine aw_topE ((congrFun (hA.2.1 8 (by decide)) 1).trans hu) ?_
    refine aw_icmp_geN m R.1 113 dX5_settle_86 (by decide) rfl rfl (by omega) (by omega) (fun c1 => absurd c1 (by omega)) (fun c1 => ?_)
    refine aw_aload_n dX5_settle_89 1 rfl ?_
    refine aw_getR (b := 1) dX5_settle_90 fl_X5_11 rfl (hA.1.s 0 (by decide)) (hA.1.n 0 (by decide)) (hA.1.r 0 0 (by decide) (by decide)) ?_
    refine aw_aload_n dX5_settle_93 1 rfl ?_
    refine aw_getR (b := 52) dX5_settle_94 fl_X5_57 rfl (hA.1.s 0 (by decide)) (hA.1.n 0 (by decide)) (hA.1.r 0 8 (by decide) (by decide)) ?_
    refine aw_iload_n dX5_settle_97 0 rfl ?_
    refine aw_ialdN m dX5_settle_98 (hA.1.s 52 (by decide)) (hA.1.n 52 (by decide)) rfl (by omega) (by first | decide | omega) ?_
    refine aw_topE (hA.2.2.1 m (by omega)) ?_
    refine aw_aaldN (h m) (54 + 3 * (h m)) dX5_settle_99 (hA.1.s 1 (by decide)) (hA.1.n 1 (by decide)) rfl (by omega) (by first | decide | omega) (hA.1.slot (by omega)) ?_
    refine aw_aload_n dX5_settle_100 1 rfl ?_
    refine aw_getR (b := 52) dX5_settle_101 fl_X5_57 rfl (hA.1.s 0 (by decide)) (hA.1.n 0 (by decide)) (hA.1.r 0 8 (by decide) (by decide)) ?_
    refine aw_callVv [.ref 52] [] (sp_X2_relink (d := d - 1) (Nat.zero_le _) 52 (rZ R m) (hA.1.row h12) (hA.1.s 52 (by decide)) (hA.1.n 52 (by decide)) g2 o2 hl) dX5_settle_104 ml_X5_322 im_X2_relink (hA.1.row (t := (h m)) (by omega)).1 (hA.1.row (t := (h m)) (by omega)).n0 rfl rfl (dl1 (d := d) (by omega)) rfl rfl (Nat.le_of_ble_eq_true rfl) rfl rfl (Nat.zero_le _) (Nat.zero_le _) ?_
    refine aw_iincN m 1 [(1, .int (nI (m + 1))), (0, .ref 0)] dX5_settle_107 0 rfl rfl rfl (Nat.le_of_ble_eq_true rfl) rfl ?_
    refine aw_goto 78 dX5_settle_110 (by decide) ?_
    exact ih (m + 1) (relM A (54 + 3 * h m) 52 (rZ R m)) (by omega) hS2
theorem sp_settle_u {d : Nat} (hd : 4 ≤ d) {M : xM} {c n : Nat} (hT : TC M) (hc : sX5_filledSlots M = nI c) (hc2 : c ≤ 12) (hu : mI M 8 1 = nI n) (hn : n ≤ 12) (hf : 12 - c < n) : Sp (fX5_settle d) [.ref 0] M (dt (some (.int (-3))) M) := by
  refine Sp.of pn_X5 (Nat.le_of_ble_eq_true rfl) (fun h => Bool.noConfusion h) ?_
  refine aw_bipush (v := 12) dX5_settle_0 (by decide) ?_
  refine aw_aload_n dX5_settle_2 0 rfl ?_
  refine aw_callVi [] [.int 12] (sp_X5_filledSlots (d := d - 1) (by omega) hT) dX5_settle_3 ml_X5_117 im_X5_filledSlots (hT.s 0 (by decide)) (hT.n 0 (by decide)) rfl rfl (dl1 (d := d) (by omega)) rfl rfl (Nat.le_of_ble_eq_true rfl) rfl rfl (Nat.zero_le _) (Nat.zero_le _) ?_
  refine aw_topE hc ?_
  refine aw_isubN 12 c dX5_settle_6 rfl rfl (by omega) ?_
  refine aw_aload_n dX5_settle_7 0 rfl ?_
  refine aw_getR (b := 8) dX5_settle_8 fl_X5_35 rfl (hT.s 0 (by decide)) (hT.n 0 (by decide)) (hT.r 0 4 (by decide) (by decide)) ?_
  refine aw_getI dX5_settle_11 fl_X5_319 (hT.s 8 (by decide)) (hT.n 8 (by decide)) ?_
  refine aw_topE hu ?_
  refine aw_icmp_geN (12 - c) n 20 dX5_settle_14 (by decide) rfl rfl (by omega) (by omega) (fun c1 => absurd c1 (by omega)) (fun c1 => ?_)
  refine aw_bipush (v := -3) dX5_settle_17 (by decide) ?_
  refine aw_iret dX5_settle_19 rfl (Nat.zero_le _) (Nat.zero_le _) ?_
  exact ⟨rfl, rfl⟩
theorem sp_settle_k {d : Nat} (hd : 4 ≤ d) {M0 : xM} {R : pR} {h : Nat → Nat} {E : Nat → Bool} (hR : CSr R M0) (hu : mI M0 8 1 = nI R.1) (hE : ∀ t, t < 12 → cEmp M0 t = E t) (hok : srcOk R.1 (rK R) (rZ R) (rW R) (rV R)) (hh : isHom E R.1 h) {c : Nat} (hT : TC M0) (hc : sX5_filledSlots M0 = nI c) (hc2 : c ≤ 12) (hn0 : 0 < R.1) (hf : R.1 ≤ 12 - c) : Sp (fX5_settle d) [.ref 0] M0 (fun r B => r = some (.int (nI (h 0))) ∧ SeC M0 h (rK R) (rZ R) (rW R) (rV R) R.1 R.1 B) := by
  refine Sp.of pn_X5 (Nat.le_of_ble_eq_true rfl) (fun h => Bool.noConfusion h) ?_
  have hR12 := hR.1
  have h1 : ∀ i, i < R.1 → h i < 12 := fun i hi => (hh i hi).1
  have h2 : ∀ i j, i < R.1 → j < R.1 → i ≠ j → h i ≠ h j := fun i j hi hj hne => by
    rcases Nat.lt_or_gt_of_ne hne with q | q
    · exact (hh j hj).2.2.1 i q
    · exact Ne.symm ((hh i hi).2.2.1 j q)
  refine aw_bipush (v := 12) dX5_settle_0 (by decide) ?_
  refine aw_aload_n dX5_settle_2 0 rfl ?_
  refine aw_callVi [] [.int 12] (sp_X5_filledSlots (d := d - 1) (by omega) hT) dX5_settle_3 ml_X5_117 im_X5_filledSlots (hT.s 0 (by decide)) (hT.n 0 (by decide)) rfl rfl (dl1 (d := d) (by omega)) rfl rfl (Nat.le_of_ble_eq_true rfl) rfl rfl (Nat.zero_le _) (Nat.zero_le _) ?_
  refine aw_topE hc ?_
  refine aw_isubN 12 c dX5_settle_6 rfl rfl (by omega) ?_
  refine aw_aload_n dX5_settle_7 0 rfl ?_
  refine aw_getR (b := 8) dX5_settle_8 fl_X5_35 rfl (hT.s 0 (by decide)) (hT.n 0 (by decide)) (hT.r 0 4 (by decide) (by decide)) ?_
  refine aw_getI dX5_settle_11 fl_X5_319 (hT.s 8 (by decide)) (hT.n 8 (by decide)) ?_
  refine aw_topE hu ?_
  refine aw_icmp_geN (12 - c) R.1 20 dX5_settle_14 (by decide) rfl rfl (by omega) (by omega) (fun c1 => ?_) (fun c1 => absurd (by omega) c1)
  refine aw_iconst (v := 0) dX5_settle_20 (by decide) ?_
  refine aw_istore_n [(1, .int 0), (0, .ref 0)] dX5_settle_21 (Nat.le_of_ble_eq_true rfl) rfl ?_
  refine lp_se1 hd hR hu hE hok hh (fun A hA => ?_) R.1 0 M0 (by omega) (SeC.rf hT _ _ _ _ _)
  refine aw_iconst (v := 0) dX5_settle_76 (by decide) ?_
  refine aw_istore_n [(1, .int 0), (0, .ref 0)] dX5_settle_77 (Nat.le_of_ble_eq_true rfl) rfl ?_
  exact lp_se2 hd hu hn0 hok h1 h2 R.1 0 A (by omega) hA
theorem lp_ne1 {d : Nat} (hd : 2 ≤ d) {M0 : xM} {s h K Z : Nat → Nat} {W : Nat → Nat → Nat} {V : Nat → Nat → Int64} {n : Nat} {E : Nat → Bool} (hr : srcR M0 s n K Z W V) (hE : ∀ t, t < 12 → rEmp M0 t = E t) (hok : srcOk n K Z W V) (hh : isHom E n h) (hm : homOk n s h) {post : Option Value → xM → Prop} (hn0 : 0 < n) (kk : ∀ A, SeR M0 s h K Z W V 0 0 n A → AW (fX6_news d) 92 [(4, .int (nI n)), (3, .int (nI (h 0))), (0, .ref 0), (1, .ref 11), (2, .int (nI n))] [] A 0 0 post) : ∀ c k (x3 : Int32) (A : xM), k + c = n → (0 < k → x3 = nI (h 0)) → SeR M0 s h K Z W V 0 0 k A → AW (fX6_news d) 5 [(4, .int (nI k)), (3, .int x3), (0, .ref 0), (1, .ref 11), (2, .int (nI n))] [] A 0 0 post := by
  have hn12 := hok.1
  intro c
  induction c with
  | zero =>
    intro k x3 A hk hx hA
    obtain rfl : k = n := by omega
    obtain rfl := hx hn0
    refine aw_iload dX6_news_5 0 rfl ?_
    refine aw_iload_n dX6_news_7 4 rfl ?_
    refine aw_icmp_geN k k 92 dX6_news_8 (by decide) rfl rfl (by omega) (by omega) (fun c1 => ?_) (fun c1 => absurd (by omega) c1)
    exact kk A hA
  | succ c ih =>
    intro k x3 A hk hx hA
    have hkn : k < n := by omega
    obtain ⟨r1, r2, r3, r4, r5, r6⟩ := hr k hkn
    obtain ⟨f1, f2, f3, f4⟩ := hA.2.2.2.2.2.1 (s k) r1 (fun i hi => hm.2.2.2 i k (by omega) hkn)
    have o1 := (hok.2 k hkn).1
    have o2 := (hok.2 k hkn).2.1
    have h12 := hm.1 k hkn
    have hst : s k ≠ h k := Ne.symm (hm.2.2.2 k k hkn hkn)
    have hlow := hA.low hE hok hh hkn
    have hTb : TR (begM A (h k) (nI (K k)) (nI (Z k))) := (sT_X6_begins A _ _ _).TR hA.1
    have hS2 := hA.add hr hok hm hkn
    by_cases hk0 : k = 0
    · skip
      refine aw_iload dX6_news_5 0 rfl ?_
      refine aw_iload_n dX6_news_7 4 rfl ?_
      refine aw_icmp_geN k n 92 dX6_news_8 (by decide) rfl rfl (by omega) (by omega) (fun c1 => absurd c1 (by omega)) (fun c1 => ?_)
      refine aw_aload_n dX6_news_11 2 rfl ?_
      refine aw_callVi [] [] (sp_X6_free (d := d - 1) (by omega) hA.1) dX6_news_12 ml_X6_151 im_X6_free (hA.1.s 0 (by decide)) (hA.1.n 0 (by decide)) rfl rfl (dl1 (d := d) (by omega)) rfl rfl (Nat.le_of_ble_eq_true rfl) rfl rfl (Nat.zero_le _) (Nat.zero_le _) ?_
      refine aw_topE hlow ?_
      refine aw_istore [(5, .int (nI (h k))), (4, .int (nI k)), (3, .int x3), (0, .ref 0), (1, .ref 11), (2, .int (nI n))] dX6_news_15 (Nat.le_of_ble_eq_true rfl) rfl ?_
      refine aw_aload_n dX6_news_17 4 rfl ?_
      refine aw_iload dX6_news_18 1 rfl ?_
      refine aw_ialdN k dX6_news_20 (hA.1.s 11 (by decide)) (hA.1.n 11 (by decide)) rfl (by omega) (by first | decide | omega) ?_
      refine aw_topE ((congrFun (hA.2.2.1 11 (by decide)) k).trans (hr k (by omega)).2.1) ?_
      refine aw_istore [(6, .int (nI (s k))), (5, .int (nI (h k))), (4, .int (nI k)), (3, .int x3), (0, .ref 0), (1, .ref 11), (2, .int (nI n))] dX6_news_21 (Nat.le_of_ble_eq_true rfl) rfl ?_
      refine aw_aload_n dX6_news_23 4 rfl ?_
      refine aw_iload dX6_news_24 1 rfl ?_
      refine aw_aload_n dX6_news_26 4 rfl ?_
      refine aw_getR (b := 1) dX6_news_27 fl_X6_7 rfl (hA.1.s 0 (by decide)) (hA.1.n 0 (by decide)) (hA.1.r 0) ?_
      refine aw_iload dX6_news_30 0 rfl ?_
      refine aw_ialdN (s k) dX6_news_32 (hA.1.s 1 (by decide)) (hA.1.n 1 (by decide)) rfl (by omega) (by first | decide | omega) ?_
      refine aw_topE (f1.trans r3) ?_
      refine aw_aload_n dX6_news_33 4 rfl ?_
      refine aw_getR (b := 2) dX6_news_34 fl_X6_13 rfl (hA.1.s 0 (by decide)) (hA.1.n 0 (by decide)) (hA.1.r 1) ?_
      refine aw_iload dX6_news_37 0 rfl ?_
      refine aw_ialdN (s k) dX6_news_39 (hA.1.s 2 (by decide)) (hA.1.n 2 (by decide)) rfl (by omega) (by first | decide | omega) ?_
      refine aw_topE (f2.trans r4) ?_
      refine aw_callVv [.int (nI (h k)), .int (nI (K k)), .int (nI (Z k))] [] (sp_X6_begins (d := d - 1) (by omega) (h k) (nI (K k)) (nI (Z k)) hA.1 (by omega)) dX6_news_40 ml_X6_155 im_X6_begins (hA.1.s 0 (by decide)) (hA.1.n 0 (by decide)) rfl rfl (dl1 (d := d) (by omega)) rfl rfl (Nat.le_of_ble_eq_true rfl) rfl rfl (Nat.zero_le _) (Nat.zero_le _) ?_
      refine aw_aload_n dX6_news_43 4 rfl ?_
      refine aw_getR (b := 3) dX6_news_44 fl_X6_16 rfl (hTb.s 0 (by decide)) (hTb.n 0 (by decide)) (hTb.r 2) ?_
      refine aw_iload dX6_news_47 1 rfl ?_
      refine aw_aload_n dX6_news_49 4 rfl ?_
      refine aw_getR (b := 3) dX6_news_50 fl_X6_16 rfl (hTb.s 0 (by decide)) (hTb.n 0 (by decide)) (hTb.r 2) ?_
      refine aw_iload dX6_news_53 0 rfl ?_
      refine aw_laldN (s k) dX6_news_55 (hTb.s 3 (by decide)) (hTb.n 3 (by decide)) rfl (by omega) (by first | decide | omega) ?_
      refine aw_lastN (h k) dX6_news_56 (hTb.s 3 (by decide)) (hTb.n 3 (by decide)) rfl (by omega) (by first | decide | omega) ?_
      refine aw_aload_n dX6_news_57 4 rfl ?_
      refine aw_iload dX6_news_58 0 rfl ?_
      refine aw_iload dX6_news_60 1 rfl ?_
      refine aw_callVv [.int (nI (s k)), .int (nI (h k))] [] (sp_X6_copies (d := d - 1) (by omega) (s k) (h k) (Z k) hTb r1 (by omega) hst (by rw [mI_stL_c, begM_2, if_neg hst]; exact f2.trans r4) o2) dX6_news_62 ml_X6_179 im_X6_copies (hTb.s 0 (by decide)) (hTb.n 0 (by decide)) rfl rfl (dl1 (d := d) (by omega)) rfl rfl (Nat.le_of_ble_eq_true rfl) rfl rfl (Nat.zero_le _) (Nat.zero_le _) ?_
      refine aw_aload_n dX6_news_65 4 rfl ?_
      refine aw_getR (b := 10) dX6_news_66 fl_X6_42 rfl (hTb.s 0 (by decide)) (hTb.n 0 (by decide)) (hTb.r 16) ?_
      refine aw_iload dX6_news_69 0 rfl ?_
      refine aw_iload dX6_news_71 1 rfl ?_
      refine aw_iastN (s k) dX6_news_73 (hTb.s 10 (by decide)) (hTb.n 10 (by decide)) rfl (by omega) (by first | decide | omega) ?_
      refine aw_iload dX6_news_74 2 rfl ?_
      refine aw_if_ne 84 dX6_news_76 (by decide) (fun c2 => absurd (by rw [hk0]; rfl) c2) (fun c2 => ?_)
      refine aw_iload dX6_news_79 1 rfl ?_
      refine aw_goto 85 dX6_news_81 (by decide) ?_
      refine aw_istore_n [(3, .int (nI (h k))), (6, .int (nI (s k))), (5, .int (nI (h k))), (4, .int (nI k)), (0, .ref 0), (1, .ref 11), (2, .int (nI n))] dX6_news_85 (Nat.le_of_ble_eq_true rfl) rfl ?_
      refine aw_iincN k 1 [(4, .int (nI (k + 1))), (3, .int (nI (h k))), (6, .int (nI (s k))), (5, .int (nI (h k))), (0, .ref 0), (1, .ref 11), (2, .int (nI n))] dX6_news_86 3 rfl rfl rfl (Nat.le_of_ble_eq_true rfl) rfl ?_
      refine aw_goto 5 dX6_news_89 (by decide) ?_
      refine aw_sub [0, 1, 4, 5, 6] rfl ?_
      exact ih (k + 1) (nI (h k)) (nwR A (h k) (s k) (K k) (Z k)) (by omega) (fun _ => by rw [hk0]) hS2
    · skip
      refine aw_iload dX6_news_5 0 rfl ?_
      refine aw_iload_n dX6_news_7 4 rfl ?_
      refine aw_icmp_geN k n 92 dX6_news_8 (by decide) rfl rfl (by omega) (by omega) (fun c1 => absurd c1 (by omega)) (fun c1 => ?_)
      refine aw_aload_n dX6_news_11 2 rfl ?_
      refine aw_callVi [] [] (sp_X6_free (d := d - 1) (by omega) hA.1) dX6_news_12 ml_X6_151 im_X6_free (hA.1.s 0 (by decide)) (hA.1.n 0 (by decide)) rfl rfl (dl1 (d := d) (by omega)) rfl rfl (Nat.le_of_ble_eq_true rfl) rfl rfl (Nat.zero_le _) (Nat.zero_le _) ?_
      refine aw_topE hlow ?_
      refine aw_istore [(5, .int (nI (h k))), (4, .int (nI k)), (3, .int x3), (0, .ref 0), (1, .ref 11), (2, .int (nI n))] dX6_news_15 (Nat.le_of_ble_eq_true rfl) rfl ?_
      refine aw_aload_n dX6_news_17 4 rfl ?_
      refine aw_iload dX6_news_18 1 rfl ?_
      refine aw_ialdN k dX6_news_20 (hA.1.s 11 (by decide)) (hA.1.n 11 (by decide)) rfl (by omega) (by first | decide | omega) ?_
      refine aw_topE ((congrFun (hA.2.2.1 11 (by decide)) k).trans (hr k (by omega)).2.1) ?_
      refine aw_istore [(6, .int (nI (s k))), (5, .int (nI (h k))), (4, .int (nI k)), (3, .int x3), (0, .ref 0), (1, .ref 11), (2, .int (nI n))] dX6_news_21 (Nat.le_of_ble_eq_true rfl) rfl ?_
      refine aw_aload_n dX6_news_23 4 rfl ?_
      refine aw_iload dX6_news_24 1 rfl ?_
      refine aw_aload_n dX6_news_26 4 rfl ?_
      refine aw_getR (b := 1) dX6_news_27 fl_X6_7 rfl (hA.1.s 0 (by decide)) (hA.1.n 0 (by decide)) (hA.1.r 0) ?_
      refine aw_iload dX6_news_30 0 rfl ?_
      refine aw_ialdN (s k) dX6_news_32 (hA.1.s 1 (by decide)) (hA.1.n 1 (by decide)) rfl (by omega) (by first | decide | omega) ?_
      refine aw_topE (f1.trans r3) ?_
      refine aw_aload_n dX6_news_33 4 rfl ?_
      refine aw_getR (b := 2) dX6_news_34 fl_X6_13 rfl (hA.1.s 0 (by decide)) (hA.1.n 0 (by decide)) (hA.1.r 1) ?_
      refine aw_iload dX6_news_37 0 rfl ?_
      refine aw_ialdN (s k) dX6_news_39 (hA.1.s 2 (by decide)) (hA.1.n 2 (by decide)) rfl (by omega) (by first | decide | omega) ?_
      refine aw_topE (f2.trans r4) ?_
      refine aw_callVv [.int (nI (h k)), .int (nI (K k)), .int (nI (Z k))] [] (sp_X6_begins (d := d - 1) (by omega) (h k) (nI (K k)) (nI (Z k)) hA.1 (by omega)) dX6_news_40 ml_X6_155 im_X6_begins (hA.1.s 0 (by decide)) (hA.1.n 0 (by decide)) rfl rfl (dl1 (d := d) (by omega)) rfl rfl (Nat.le_of_ble_eq_true rfl) rfl rfl (Nat.zero_le _) (Nat.zero_le _) ?_
      refine aw_aload_n dX6_news_43 4 rfl ?_
      refine aw_getR (b := 3) dX6_news_44 fl_X6_16 rfl (hTb.s 0 (by decide)) (hTb.n 0 (by decide)) (hTb.r 2) ?_
      refine aw_iload dX6_news_47 1 rfl ?_
      refine aw_aload_n dX6_news_49 4 rfl ?_
      refine aw_getR (b := 3) dX6_news_50 fl_X6_16 rfl (hTb.s 0 (by decide)) (hTb.n 0 (by decide)) (hTb.r 2) ?_
      refine aw_iload dX6_news_53 0 rfl ?_
      refine aw_laldN (s k) dX6_news_55 (hTb.s 3 (by decide)) (hTb.n 3 (by decide)) rfl (by omega) (by first | decide | omega) ?_
      refine aw_lastN (h k) dX6_news_56 (hTb.s 3 (by decide)) (hTb.n 3 (by decide)) rfl (by omega) (by first | decide | omega) ?_
      refine aw_aload_n dX6_news_57 4 rfl ?_
      refine aw_iload dX6_news_58 0 rfl ?_
      refine aw_iload dX6_news_60 1 rfl ?_
      refine aw_callVv [.int (nI (s k)), .int (nI (h k))] [] (sp_X6_copies (d := d - 1) (by omega) (s k) (h k) (Z k) hTb r1 (by omega) hst (by rw [mI_stL_c, begM_2, if_neg hst]; exact f2.trans r4) o2) dX6_news_62 ml_X6_179 im_X6_copies (hTb.s 0 (by decide)) (hTb.n 0 (by decide)) rfl rfl (dl1 (d := d) (by omega)) rfl rfl (Nat.le_of_ble_eq_true rfl) rfl rfl (Nat.zero_le _) (Nat.zero_le _) ?_
      refine aw_aload_n dX6_news_65 4 rfl ?_
      refine aw_getR (b := 10) dX6_news_66 fl_X6_42 rfl (hTb.s 0 (by decide)) (hTb.n 0 (by decide)) (hTb.r 16) ?_
      refine aw_iload dX6_news_69 0 rfl ?_
      refine aw_iload dX6_news_71 1 rfl ?_
      refine aw_iastN (s k) dX6_news_73 (hTb.s 10 (by decide)) (hTb.n 10 (by decide)) rfl (by omega) (by first | decide | omega) ?_
      refine aw_iload dX6_news_74 2 rfl ?_
      refine aw_if_ne 84 dX6_news_76 (by decide) (fun c2 => ?_) (fun c2 => absurd ((nI_z (by omega)).mp c2) hk0)
      refine aw_iload_n dX6_news_84 3 rfl ?_
      refine aw_istore_n [(3, .int x3), (6, .int (nI (s k))), (5, .int (nI (h k))), (4, .int (nI k)), (0, .ref 0), (1, .ref 11), (2, .int (nI n))] dX6_news_85 (Nat.le_of_ble_eq_true rfl) rfl ?_
      refine aw_iincN k 1 [(4, .int (nI (k + 1))), (3, .int x3), (6, .int (nI (s k))), (5, .int (nI (h k))), (0, .ref 0), (1, .ref 11), (2, .int (nI n))] dX6_news_86 3 rfl rfl rfl (Nat.le_of_ble_eq_true rfl) rfl ?_
      refine aw_goto 5 dX6_news_89 (by decide) ?_
      refine aw_sub [0, 1, 4, 5, 6] rfl ?_
      exact ih (k + 1) x3 (nwR A (h k) (s k) (K k) (Z k)) (by omega) (fun _ => hx (by omega)) hS2
theorem lp_ne2i {d : Nat} {M0 : xM} {s h K Z : Nat → Nat} {W : Nat → Nat → Nat} {V : Nat → Nat → Int64} {n : Nat} {E : Nat → Bool} (hr : srcR M0 s n K Z W V) (hE : ∀ t, t < 12 → rEmp M0 t = E t) (hok : srcOk n K Z W V) (hh : isHom E n h) (hm : homOk n s h) {post : Option Value → xM → Prop} {m : Nat} (hmn : m < n) (kk : ∀ A, SeR M0 s h K Z W V m (Z m) n A → AW (fX6_news d) 184 [(6, .int (nI (Z m))), (5, .int (nI (h m))), (4, .int (nI m)), (3, .int (nI (h 0))), (0, .ref 0), (1, .ref 11), (2, .int (nI n))] [] A 0 0 post) : ∀ c jj (A : xM), jj + c = Z m → SeR M0 s h K Z W V m jj n A → AW (fX6_news d) 115 [(6, .int (nI jj)), (5, .int (nI (h m))), (4, .int (nI m)), (3, .int (nI (h 0))), (0, .ref 0), (1, .ref 11), (2, .int (nI n))] [] A 0 0 post := by
  have hn12 := hok.1
  obtain ⟨o1, o2, o3, o4⟩ := hok.2 m hmn
  have h12 := hm.1 m hmn
  intro c
  induction c with
  | zero =>
    intro jj A hj hA
    obtain ⟨g1, g2, g3, g4⟩ := hA.2.2.2.2.2.2 m hmn
    obtain rfl : jj = Z m := by omega
    refine aw_iload dX6_news_115 0 rfl ?_
    refine aw_aload_n dX6_news_117 4 rfl ?_
    refine aw_getR (b := 2) dX6_news_118 fl_X6_13 rfl (hA.1.s 0 (by decide)) (hA.1.n 0 (by decide)) (hA.1.r 1) ?_
    refine aw_iload dX6_news_121 1 rfl ?_
    refine aw_ialdN (h m) dX6_news_123 (hA.1.s 2 (by decide)) (hA.1.n 2 (by decide)) rfl (by omega) (by first | decide | omega) ?_
    refine aw_topE g2 ?_
    refine aw_icmp_geN (Z m) (Z m) 184 dX6_news_124 (by decide) rfl rfl (by omega) (by omega) (fun c1 => ?_) (fun c1 => absurd (by omega) c1)
    exact kk A hA
  | succ c ih =>
    intro jj A hj hA
    obtain ⟨g1, g2, g3, g4⟩ := hA.2.2.2.2.2.2 m hmn
    obtain ⟨w12, w10⟩ := o4 jj (by omega)
    by_cases c10 : W m jj = 10
    · obtain ⟨u, u1, u2⟩ := w10 c10
      have hu : lC (V m jj) < n := by rw [u2, lC_N (by omega)]; exact u1
      have hsu := (hr _ hu).1
      have hhu := hm.1 _ hu
      have hv : vS s h W V m jj m jj = lN (s (lC (V m jj))) := by
        unfold vS
        rw [if_pos c10, if_neg (by omega)]
      refine aw_iload dX6_news_115 0 rfl ?_
      refine aw_aload_n dX6_news_117 4 rfl ?_
      refine aw_getR (b := 2) dX6_news_118 fl_X6_13 rfl (hA.1.s 0 (by decide)) (hA.1.n 0 (by decide)) (hA.1.r 1) ?_
      refine aw_iload dX6_news_121 1 rfl ?_
      refine aw_ialdN (h m) dX6_news_123 (hA.1.s 2 (by decide)) (hA.1.n 2 (by decide)) rfl (by omega) (by first | decide | omega) ?_
      refine aw_topE g2 ?_
      refine aw_icmp_geN jj (Z m) 184 dX6_news_124 (by decide) rfl rfl (by omega) (by omega) (fun c1 => absurd c1 (by omega)) (fun c1 => ?_)
      refine aw_aload_n dX6_news_127 4 rfl ?_
      refine aw_getR (b := 4) dX6_news_128 fl_X6_20 rfl (hA.1.s 0 (by decide)) (hA.1.n 0 (by decide)) (hA.1.r 3) ?_
      refine aw_bipush (v := 12) dX6_news_131 (by decide) ?_
      refine aw_iload dX6_news_133 1 rfl ?_
      refine aw_imulN 12 (h m) dX6_news_135 rfl rfl ?_
      refine aw_iload dX6_news_136 0 rfl ?_
      refine aw_iaddN (12 * (h m)) jj dX6_news_138 rfl rfl ?_
      refine aw_ialdN ((12 * (h m)) + jj) dX6_news_139 (hA.1.s 4 (by decide)) (hA.1.n 4 (by decide)) rfl (by omega) (by first | decide | omega) ?_
      refine aw_topE (g4 jj (by omega)).1 ?_
      refine aw_bipush (v := 10) dX6_news_140 (by decide) ?_
      refine aw_icmp_neN (W m jj) 10 178 dX6_news_142 (by decide) rfl rfl (by omega) (by omega) (fun c2 => absurd c10 c2) (fun c2 => ?_)
      refine aw_aload_n dX6_news_145 4 rfl ?_
      refine aw_getR (b := 5) dX6_news_146 fl_X6_23 rfl (hA.1.s 0 (by decide)) (hA.1.n 0 (by decide)) (hA.1.r 4) ?_
      refine aw_bipush (v := 12) dX6_news_149 (by decide) ?_
      refine aw_iload dX6_news_151 1 rfl ?_
      refine aw_imulN 12 (h m) dX6_news_153 rfl rfl ?_
      refine aw_iload dX6_news_154 0 rfl ?_
      refine aw_iaddN (12 * (h m)) jj dX6_news_156 rfl rfl ?_
      refine aw_aload_n dX6_news_157 4 rfl ?_
      refine aw_getR (b := 10) dX6_news_158 fl_X6_42 rfl (hA.1.s 0 (by decide)) (hA.1.n 0 (by decide)) (hA.1.r 16) ?_
      refine aw_aload_n dX6_news_161 4 rfl ?_
      refine aw_getR (b := 5) dX6_news_162 fl_X6_23 rfl (hA.1.s 0 (by decide)) (hA.1.n 0 (by decide)) (hA.1.r 4) ?_
      refine aw_bipush (v := 12) dX6_news_165 (by decide) ?_
      refine aw_iload dX6_news_167 1 rfl ?_
      refine aw_imulN 12 (h m) dX6_news_169 rfl rfl ?_
      refine aw_iload dX6_news_170 0 rfl ?_
      refine aw_iaddN (12 * (h m)) jj dX6_news_172 rfl rfl ?_
      refine aw_laldN ((12 * (h m)) + jj) dX6_news_173 (hA.1.s 5 (by decide)) (hA.1.n 5 (by decide)) rfl (by omega) (by first | decide | omega) ?_
      refine aw_toplE ((g4 jj (by omega)).2.trans hv) ?_
      refine aw_l2iN (s (lC (V m jj))) dX6_news_174 rfl ?_
      refine aw_ialdN (s (lC (V m jj))) dX6_news_175 (hA.1.s 10 (by decide)) (hA.1.n 10 (by decide)) rfl (by omega) (by first | decide | omega) ?_
      refine aw_topE (hA.2.2.2.2.1 (lC (V m jj)) hu) ?_
      refine aw_i2lN (h (lC (V m jj))) dX6_news_176 rfl (by omega) ?_
      refine aw_lastN ((12 * (h m)) + jj) dX6_news_177 (hA.1.s 5 (by decide)) (hA.1.n 5 (by decide)) rfl (by omega) (by first | decide | omega) ?_
      refine aw_iincN jj 1 [(6, .int (nI (jj + 1))), (5, .int (nI (h m))), (4, .int (nI m)), (3, .int (nI (h 0))), (0, .ref 0), (1, .ref 11), (2, .int (nI n))] dX6_news_178 0 rfl rfl rfl (Nat.le_of_ble_eq_true rfl) rfl ?_
      refine aw_goto 115 dX6_news_181 (by decide) ?_
      exact ih (jj + 1) _ (by omega) (hA.c10 hok hm hmn (by omega) c10)
    · skip
      refine aw_iload dX6_news_115 0 rfl ?_
      refine aw_aload_n dX6_news_117 4 rfl ?_
      refine aw_getR (b := 2) dX6_news_118 fl_X6_13 rfl (hA.1.s 0 (by decide)) (hA.1.n 0 (by decide)) (hA.1.r 1) ?_
      refine aw_iload dX6_news_121 1 rfl ?_
      refine aw_ialdN (h m) dX6_news_123 (hA.1.s 2 (by decide)) (hA.1.n 2 (by decide)) rfl (by omega) (by first | decide | omega) ?_
      refine aw_topE g2 ?_
      refine aw_icmp_geN jj (Z m) 184 dX6_news_124 (by decide) rfl rfl (by omega) (by omega) (fun c1 => absurd c1 (by omega)) (fun c1 => ?_)
      refine aw_aload_n dX6_news_127 4 rfl ?_
      refine aw_getR (b := 4) dX6_news_128 fl_X6_20 rfl (hA.1.s 0 (by decide)) (hA.1.n 0 (by decide)) (hA.1.r 3) ?_
      refine aw_bipush (v := 12) dX6_news_131 (by decide) ?_
      refine aw_iload dX6_news_133 1 rfl ?_
      refine aw_imulN 12 (h m) dX6_news_135 rfl rfl ?_
      refine aw_iload dX6_news_136 0 rfl ?_
      refine aw_iaddN (12 * (h m)) jj dX6_news_138 rfl rfl ?_
      refine aw_ialdN ((12 * (h m)) + jj) dX6_news_139 (hA.1.s 4 (by decide)) (hA.1.n 4 (by decide)) rfl (by omega) (by first | decide | omega) ?_
      refine aw_topE (g4 jj (by omega)).1 ?_
      refine aw_bipush (v := 10) dX6_news_140 (by decide) ?_
      refine aw_icmp_neN (W m jj) 10 178 dX6_news_142 (by decide) rfl rfl (by omega) (by omega) (fun c2 => ?_) (fun c2 => absurd c2 c10)
      refine aw_iincN jj 1 [(6, .int (nI (jj + 1))), (5, .int (nI (h m))), (4, .int (nI m)), (3, .int (nI (h 0))), (0, .ref 0), (1, .ref 11), (2, .int (nI n))] dX6_news_178 0 rfl rfl rfl (Nat.le_of_ble_eq_true rfl) rfl ?_
      refine aw_goto 115 dX6_news_181 (by decide) ?_
      exact ih (jj + 1) A (by omega) (hA.cno c10)
theorem lp_ne2 {d : Nat} {M0 : xM} {s h K Z : Nat → Nat} {W : Nat → Nat → Nat} {V : Nat → Nat → Int64} {n : Nat} {E : Nat → Bool} (hr : srcR M0 s n K Z W V) (hE : ∀ t, t < 12 → rEmp M0 t = E t) (hok : srcOk n K Z W V) (hh : isHom E n h) (hm : homOk n s h) : ∀ c m (A : xM), m + c = n → SeR M0 s h K Z W V m 0 n A → AW (fX6_news d) 95 [(4, .int (nI m)), (3, .int (nI (h 0))), (0, .ref 0), (1, .ref 11), (2, .int (nI n))] [] A 0 0 (fun r B => r = some (.int (nI (h 0))) ∧ SeR M0 s h K Z W V n 0 n B) := by
  have hn12 := hok.1
  intro c
  induction c with
  | zero =>
    intro m A hmm hA
    obtain rfl : m = n := by omega
    refine aw_iload dX6_news_95 0 rfl ?_
    refine aw_iload_n dX6_news_97 4 rfl ?_
    refine aw_icmp_geN m m 190 dX6_news_98 (by decide) rfl rfl (by omega) (by omega) (fun c1 => ?_) (fun c1 => absurd (by omega) c1)
    refine aw_iload_n dX6_news_190 1 rfl ?_
    refine aw_iret dX6_news_191 rfl (Nat.zero_le _) (Nat.zero_le _) ?_
    exact ⟨rfl, hA⟩
  | succ c ih =>
    intro m A hmm hA
    have hmn : m < n := by omega
    have h12 := hm.1 m hmn
    have r1 := (hr m hmn).1
    refine aw_iload dX6_news_95 0 rfl ?_
    refine aw_iload_n dX6_news_97 4 rfl ?_
    refine aw_icmp_geN m n 190 dX6_news_98 (by decide) rfl rfl (by omega) (by omega) (fun c1 => absurd c1 (by omega)) (fun c1 => ?_)
    refine aw_aload_n dX6_news_101 2 rfl ?_
    refine aw_getR (b := 10) dX6_news_102 fl_X6_42 rfl (hA.1.s 0 (by decide)) (hA.1.n 0 (by decide)) (hA.1.r 16) ?_
    refine aw_aload_n dX6_news_105 3 rfl ?_
    refine aw_iload dX6_news_106 0 rfl ?_
    refine aw_ialdN m dX6_news_108 (hA.1.s 11 (by decide)) (hA.1.n 11 (by decide)) rfl (by omega) (by first | decide | omega) ?_
    refine aw_topE ((congrFun (hA.2.2.1 11 (by decide)) m).trans (hr m (by omega)).2.1) ?_
    refine aw_ialdN (s m) dX6_news_109 (hA.1.s 10 (by decide)) (hA.1.n 10 (by decide)) rfl (by omega) (by first | decide | omega) ?_
    refine aw_topE (hA.2.2.2.2.1 m hmn) ?_
    refine aw_istore [(5, .int (nI (h m))), (4, .int (nI m)), (3, .int (nI (h 0))), (0, .ref 0), (1, .ref 11), (2, .int (nI n))] dX6_news_110 (Nat.le_of_ble_eq_true rfl) rfl ?_
    refine aw_iconst (v := 0) dX6_news_112 (by decide) ?_
    refine aw_istore [(6, .int 0), (5, .int (nI (h m))), (4, .int (nI m)), (3, .int (nI (h 0))), (0, .ref 0), (1, .ref 11), (2, .int (nI n))] dX6_news_113 (Nat.le_of_ble_eq_true rfl) rfl ?_
    refine lp_ne2i hr hE hok hh hm hmn (fun A2 hA2 => ?_) (Z m) 0 A (by omega) hA
    refine aw_iincN m 1 [(4, .int (nI (m + 1))), (6, .int (nI (Z m))), (5, .int (nI (h m))), (3, .int (nI (h 0))), (0, .ref 0), (1, .ref 11), (2, .int (nI n))] dX6_news_184 2 rfl rfl rfl (Nat.le_of_ble_eq_true rfl) rfl ?_
    refine aw_goto 95 dX6_news_187 (by decide) ?_
    refine aw_sub [0, 3, 4, 5, 6] rfl ?_
    exact ih (m + 1) A2 (by omega) hA2.nxt
theorem sp_news {d : Nat} (hd : 2 ≤ d) {M0 : xM} {s h K Z : Nat → Nat} {W : Nat → Nat → Nat} {V : Nat → Nat → Int64} {n : Nat} {E : Nat → Bool} (hr : srcR M0 s n K Z W V) (hE : ∀ t, t < 12 → rEmp M0 t = E t) (hok : srcOk n K Z W V) (hh : isHom E n h) (hm : homOk n s h) (hn0 : 0 < n) (hT : TR M0) (hL : LenR M0) : Sp (fX6_news d) [.ref 0, .ref 11, .int (nI n)] M0 (fun r B => r = some (.int (nI (h 0))) ∧ SeR M0 s h K Z W V n 0 n B) := by
  refine Sp.of pn_X6 (Nat.le_of_ble_eq_true rfl) (fun h => Bool.noConfusion h) ?_
  have hn12 := hok.1
  refine aw_iconst (v := -1) dX6_news_0 (by decide) ?_
  refine aw_istore_n [(3, .int (-1)), (0, .ref 0), (1, .ref 11), (2, .int (nI n))] dX6_news_1 (Nat.le_of_ble_eq_true rfl) rfl ?_
  refine aw_iconst (v := 0) dX6_news_2 (by decide) ?_
  refine aw_istore [(4, .int 0), (3, .int (-1)), (0, .ref 0), (1, .ref 11), (2, .int (nI n))] dX6_news_3 (Nat.le_of_ble_eq_true rfl) rfl ?_
  refine lp_ne1 hd hr hE hok hh hm hn0 (fun A hA => ?_) n 0 (-1) M0 (by omega) (fun z => absurd z (Nat.lt_irrefl 0)) (SeR.rf hT hL _ _ _ _ _ _)
  refine aw_iconst (v := 0) dX6_news_92 (by decide) ?_
  refine aw_istore [(4, .int 0), (3, .int (nI (h 0))), (0, .ref 0), (1, .ref 11), (2, .int (nI n))] dX6_news_93 (Nat.le_of_ble_eq_true rfl) rfl ?_
  exact lp_ne2 hr hE hok hh hm n 0 A (by omega) hA
