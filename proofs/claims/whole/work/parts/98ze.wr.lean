-- STEPS, RUNS, LETTERS: the class
theorem bL (n : Nat) {i : Nat} (h : i < 64) : (lN n).toBitVec.getLsbD i = n.testBit i := by
  rw [wb_tb, BitVec.getLsbD_ofNat, decide_eq_true h, Bool.true_and]
theorem m128 : ∀ i, i < 64 → (-128 : Int64).toBitVec.getLsbD i = decide (7 ≤ i) := by decide +kernel
theorem st_z {u : Nat} (hu : u < 2 ^ 64) : lN u &&& (-128) = 0 ↔ u < 128 := by
  constructor
  · intro h
    show u < 2 ^ 7
    apply Nat.lt_pow_two_of_testBit
    intro i hi
    by_cases c : i < 64
    · have h1 : (lN u &&& (-128)).toBitVec.getLsbD i = false := by rw [h]; exact BitVec.getLsbD_zero
      rw [Int64.toBitVec_and, BitVec.getLsbD_and, bL u c, m128 i c, decide_eq_true hi, Bool.and_true] at h1
      exact h1
    · exact Nat.testBit_lt_two_pow (Nat.lt_of_lt_of_le hu (Nat.pow_le_pow_right (by decide) (by omega)))
  · intro h
    apply Int64.toBitVec_inj.mp
    apply BitVec.eq_of_getLsbD_eq
    intro i hi
    rw [Int64.toBitVec_and, BitVec.getLsbD_and, bL u hi, m128 i hi]
    by_cases c : 7 ≤ i
    · rw [Nat.testBit_lt_two_pow (Nat.lt_of_lt_of_le h (Nat.pow_le_pow_right (by decide) c : 2 ^ 7 ≤ 2 ^ i)), Bool.false_and]
      exact BitVec.getLsbD_zero.symm
    · rw [decide_eq_false c, Bool.and_false]
      exact BitVec.getLsbD_zero.symm
def stB : Nat → Nat → List Int32
  | 0, u => [nI u]
  | g + 1, u => if u < 128 then [nI u] else nI (u % 128 + 128) :: stB g (u / 128)
theorem stB_len : ∀ g u, (stB g u).length ≤ g + 1
  | 0, _ => Nat.le_refl _
  | g + 1, u => by
    unfold stB
    split
    · show 1 ≤ _; omega
    · have := stB_len g (u / 128)
      rw [List.length_cons]
      omega
def zgz (s : Int64) : Int64 := (s <<< ((Int32.toInt64 1) &&& 63)) ^^^ (s >>> ((Int32.toInt64 63) &&& 63))
theorem a127 {u : Nat} (hu : u < 2 ^ 64) : lN u &&& 127 = lN (u % 128) := wb_mask (k := 7) hu (by decide)
theorem u7 {u : Nat} (hu : u < 2 ^ 64) : ((Int64.toUInt64 (lN u)) >>> ((Int32.toInt64 7).toUInt64 &&& Int64.toUInt64 63)).toInt64 = lN (u / 128) := wb_shr (k := 7) hu (by decide)
theorem add128 (u : Nat) : (lN u).toInt32 + 128 = nI (u + 128) := by
  rw [l2i_N]
  exact nI_add u 128
theorem lp_st {d : Nat} (hd : 1 ≤ d) {M : xM} {w rw so : Nat} (v : Int64) (hW : WrAt M w rw so) : ∀ (g i u : Nat) (l : List Int32), i + g = 9 → u < 2 ^ 64 → l.length + (g + 1) ≤ 1464 → AW (fX4_writeStep d) 12 [(5, .int (nI i)), (3, .long (lN u)), (0, .ref w), (1, .long v)] [] (emM M so 1 (so + 1) l) 0 0 (dt none (emM M so 1 (so + 1) (l ++ stB g u))) := by
  intro g
  induction g with
  | zero =>
    intro i u l hi hu hl
    rw [show stB 0 u = [nI u] from rfl]
    refine aw_iload dX4_writeStep_12 0 rfl ?_
    refine aw_bipush (v := 9) dX4_writeStep_14 (by decide) ?_
    refine aw_icmp_geN i 9 57 dX4_writeStep_16 (by decide) rfl rfl (by omega) (by omega) (fun c1 => ?_) (fun c1 => absurd (by omega) c1)
    refine aw_aload_n dX4_writeStep_57 2 rfl ?_
    refine aw_getR (b := so) dX4_writeStep_58 fl_X4_26 rfl ((sT_emM M so 1 (so + 1) l).wr hW).1 ((sT_emM M so 1 (so + 1) l).wr hW).2.1 ((sT_emM M so 1 (so + 1) l).wr hW).2.2.2.1 ?_
    refine aw_lload_n dX4_writeStep_61 1 rfl ?_
    refine aw_l2iN u dX4_writeStep_62 rfl ?_
    refine aw_callVv [.int (nI u)] [] (sp_add (d := d - 1) (by omega) (l := l) (nI u) hW.2.2.2.2.2.2.2.1 (by omega)) dX4_writeStep_63 ml_X4_56 im_X3_add ((sT_emM M so 1 (so + 1) l).wr hW).2.2.2.2.2.2.2.1.1 ((sT_emM M so 1 (so + 1) l).wr hW).2.2.2.2.2.2.2.1.n0 rfl rfl (dl1 (d := d) (by omega)) rfl rfl (Nat.le_of_ble_eq_true rfl) rfl rfl (Nat.zero_le _) (Nat.zero_le _) ?_
    refine aw_ret dX4_writeStep_66 rfl (Nat.zero_le _) (Nat.zero_le _) ?_
    exact ⟨rfl, rfl⟩
  | succ g ih =>
    intro i u l hi hu hl
    by_cases c : u < 128
    · rw [show stB (g + 1) u = [nI u] from if_pos c]
      refine aw_iload dX4_writeStep_12 0 rfl ?_
      refine aw_bipush (v := 9) dX4_writeStep_14 (by decide) ?_
      refine aw_icmp_geN i 9 57 dX4_writeStep_16 (by decide) rfl rfl (by omega) (by omega) (fun c1 => absurd c1 (by omega)) (fun c1 => ?_)
      refine aw_lload_n dX4_writeStep_19 1 rfl ?_
      refine aw_ldc2 dX4_writeStep_20 kc_X4_108 ?_
      refine aw_land dX4_writeStep_23 ?_
      refine aw_lconst (v := 0) dX4_writeStep_24 (by decide) ?_
      refine aw_leq 57 dX4_writeStep_25 dX4_writeStep_26 (by decide) (fun c2 => ?_) (fun c2 => absurd ((st_z hu).mpr c) c2)
      refine aw_aload_n dX4_writeStep_57 2 rfl ?_
      refine aw_getR (b := so) dX4_writeStep_58 fl_X4_26 rfl ((sT_emM M so 1 (so + 1) l).wr hW).1 ((sT_emM M so 1 (so + 1) l).wr hW).2.1 ((sT_emM M so 1 (so + 1) l).wr hW).2.2.2.1 ?_
      refine aw_lload_n dX4_writeStep_61 1 rfl ?_
      refine aw_l2iN u dX4_writeStep_62 rfl ?_
      refine aw_callVv [.int (nI u)] [] (sp_add (d := d - 1) (by omega) (l := l) (nI u) hW.2.2.2.2.2.2.2.1 (by omega)) dX4_writeStep_63 ml_X4_56 im_X3_add ((sT_emM M so 1 (so + 1) l).wr hW).2.2.2.2.2.2.2.1.1 ((sT_emM M so 1 (so + 1) l).wr hW).2.2.2.2.2.2.2.1.n0 rfl rfl (dl1 (d := d) (by omega)) rfl rfl (Nat.le_of_ble_eq_true rfl) rfl rfl (Nat.zero_le _) (Nat.zero_le _) ?_
      refine aw_ret dX4_writeStep_66 rfl (Nat.zero_le _) (Nat.zero_le _) ?_
      exact ⟨rfl, rfl⟩
    · have e : stB (g + 1) u = nI (u % 128 + 128) :: stB g (u / 128) := if_neg c
      have q := ih (i + 1) (u / 128) (l ++ [nI (u % 128 + 128)]) (by omega) (by omega) (by rw [List.length_append, List.length_cons, List.length_nil]; omega)
      rw [List.append_assoc, show [nI (u % 128 + 128)] ++ stB g (u / 128) = stB (g + 1) u from e.symm] at q
      refine aw_iload dX4_writeStep_12 0 rfl ?_
      refine aw_bipush (v := 9) dX4_writeStep_14 (by decide) ?_
      refine aw_icmp_geN i 9 57 dX4_writeStep_16 (by decide) rfl rfl (by omega) (by omega) (fun c1 => absurd c1 (by omega)) (fun c1 => ?_)
      refine aw_lload_n dX4_writeStep_19 1 rfl ?_
      refine aw_ldc2 dX4_writeStep_20 kc_X4_108 ?_
      refine aw_land dX4_writeStep_23 ?_
      refine aw_lconst (v := 0) dX4_writeStep_24 (by decide) ?_
      refine aw_leq 57 dX4_writeStep_25 dX4_writeStep_26 (by decide) (fun c2 => absurd ((st_z hu).mp c2) c) (fun c2 => ?_)
      refine aw_aload_n dX4_writeStep_29 2 rfl ?_
      refine aw_getR (b := so) dX4_writeStep_30 fl_X4_26 rfl ((sT_emM M so 1 (so + 1) l).wr hW).1 ((sT_emM M so 1 (so + 1) l).wr hW).2.1 ((sT_emM M so 1 (so + 1) l).wr hW).2.2.2.1 ?_
      refine aw_lload_n dX4_writeStep_33 1 rfl ?_
      refine aw_ldc2 dX4_writeStep_34 kc_X4_110 ?_
      refine aw_land dX4_writeStep_37 ?_
      refine aw_l2i dX4_writeStep_38 ?_
      refine aw_sipush (v := 128) dX4_writeStep_39 (by decide) ?_
      refine aw_iadd dX4_writeStep_42 ?_
      refine aw_callVv [.int ((Int64.toInt32 ((lN u) &&& (127 : Int64))) + 128)] [] (show Sp (fX3_add (d - 1)) [.ref so, .int ((Int64.toInt32 ((lN u) &&& (127 : Int64))) + 128)] (emM M so 1 (so + 1) l) (dt none (emM M so 1 (so + 1) (l ++ [nI (u % 128 + 128)]))) by rw [show (Int64.toInt32 ((lN u) &&& (127 : Int64))) + 128 = nI (u % 128 + 128) by rw [a127 hu]; exact add128 _]; exact sp_add (by omega) (l := l) _ hW.2.2.2.2.2.2.2.1 (by omega)) dX4_writeStep_43 ml_X4_56 im_X3_add ((sT_emM M so 1 (so + 1) l).wr hW).2.2.2.2.2.2.2.1.1 ((sT_emM M so 1 (so + 1) l).wr hW).2.2.2.2.2.2.2.1.n0 rfl rfl (dl1 (d := d) (by omega)) rfl rfl (Nat.le_of_ble_eq_true rfl) rfl rfl (Nat.zero_le _) (Nat.zero_le _) ?_
      refine aw_lload_n dX4_writeStep_46 1 rfl ?_
      refine aw_bipush (v := 7) dX4_writeStep_47 (by decide) ?_
      refine aw_lushr dX4_writeStep_49 ?_
      refine aw_toplE (u7 hu) ?_
      refine aw_lstore_n [(3, .long (lN (u / 128))), (5, .int (nI i)), (0, .ref w), (1, .long v)] dX4_writeStep_50 (Nat.le_of_ble_eq_true rfl) rfl ?_
      refine aw_iincN i 1 [(5, .int (nI (i + 1))), (3, .long (lN (u / 128))), (0, .ref w), (1, .long v)] dX4_writeStep_51 1 rfl rfl rfl (Nat.le_of_ble_eq_true rfl) rfl ?_
      refine aw_goto 12 dX4_writeStep_54 (by decide) ?_
      exact q
def zgN (s : Int64) : Nat := (zgz s).toBitVec.toNat
theorem zgN_eq (s : Int64) : zgz s = lN (zgN s) ∧ zgN s < 2 ^ 64 := by
  refine ⟨wb_inj ?_, (zgz s).toBitVec.isLt⟩
  rw [wb_tb]
  unfold zgN
  simp
theorem sp_st {d : Nat} (hd : 1 ≤ d) {M : xM} {w rw so : Nat} {l : List Int32} (v : Int64) (hW : WrAt M w rw so) (hl : l.length + 10 ≤ 1464) : Sp (fX4_writeStep d) [.ref w, .long v] (emM M so 1 (so + 1) l) (dt none (emM M so 1 (so + 1) (l ++ stB 9 (zgN v)))) := by
  refine Sp.of pn_X4 (Nat.le_of_ble_eq_true rfl) (fun h => Bool.noConfusion h) ?_
  obtain ⟨z1, z2⟩ := zgN_eq v
  refine aw_lload_n dX4_writeStep_0 1 rfl ?_
  refine aw_iconst (v := 1) dX4_writeStep_1 (by decide) ?_
  refine aw_lshl dX4_writeStep_2 ?_
  refine aw_lload_n dX4_writeStep_3 1 rfl ?_
  refine aw_bipush (v := 63) dX4_writeStep_4 (by decide) ?_
  refine aw_lshr dX4_writeStep_6 ?_
  refine aw_lxor dX4_writeStep_7 ?_
  refine aw_toplE z1 ?_
  refine aw_lstore_n [(3, .long (lN (zgN v))), (0, .ref w), (1, .long v)] dX4_writeStep_8 (Nat.le_of_ble_eq_true rfl) rfl ?_
  refine aw_iconst (v := 0) dX4_writeStep_9 (by decide) ?_
  refine aw_istore [(5, .int 0), (3, .long (lN (zgN v))), (0, .ref w), (1, .long v)] dX4_writeStep_10 (Nat.le_of_ble_eq_true rfl) rfl ?_
  exact lp_st hd v hW 9 0 (zgN v) l (by omega) z2 (by omega)
def ssB (V : Nat → Int64) : Nat → Nat → Int64 → List Int32
  | 0, _, _ => []
  | n + 1, i, b => stB 9 (zgN (V i - b)) ++ ssB V n (i + 1) (V i)
theorem ssB_len (V : Nat → Int64) : ∀ n i b, (ssB V n i b).length ≤ 10 * n
  | 0, _, _ => Nat.le_refl _
  | n + 1, i, b => by
    have h1 := stB_len 9 (zgN (V i - b))
    have h2 := ssB_len V n (i + 1) (V i)
    show (stB 9 (zgN (V i - b)) ++ ssB V n (i + 1) (V i)).length ≤ _
    rw [List.length_append]
    omega
theorem lp_ss {d : Nat} (hd : 2 ≤ d) {M : xM} {w rw so : Nat} {r : Nat} (k z : Nat) (V : Nat → Int64) (hk8 : k < 8) (hW : WrAt M w rw so) (hR : RowAt M r) (hr : so + 1 < r) (hk : mI M r 0 = nI k) (hz : mI M r 1 = nI z) (hz2 : z ≤ 12) (hV : ∀ i, i < z → mL M (r + 2) i = V i) : ∀ (n i : Nat) (b : Int64) (l : List Int32), i + n = z → l.length + 10 * n ≤ 1464 → AW (fX4_writeSteps d) 5 [(4, .int (nI i)), (2, .long b), (0, .ref w), (1, .ref r)] [] (emM M so 1 (so + 1) l) 0 0 (dt none (emM M so 1 (so + 1) (l ++ ssB V n i b))) := by
  intro n
  induction n with
  | zero =>
    intro i b l hi hl
    rw [show l ++ ssB V 0 i b = l from List.append_nil l]
    refine aw_iload dX4_writeSteps_5 0 rfl ?_
    refine aw_aload_n dX4_writeSteps_7 3 rfl ?_
    refine aw_getI dX4_writeSteps_8 fl_X4_73 ((sT_emM M so 1 (so + 1) l).row hR).1 ((sT_emM M so 1 (so + 1) l).row hR).n0 ?_
    refine aw_topE ((congrFun (emM_I M l (show r ≠ so by omega) (show r ≠ so + 1 by omega)) 1).trans hz) ?_
    refine aw_icmp_geN i z 41 dX4_writeSteps_11 (by decide) rfl rfl (by omega) (by omega) (fun c1 => ?_) (fun c1 => absurd (by omega) c1)
    refine aw_ret dX4_writeSteps_41 rfl (Nat.zero_le _) (Nat.zero_le _) ?_
    exact ⟨rfl, rfl⟩
  | succ n ih =>
    intro i b l hi hl
    have hln := stB_len 9 (zgN (V i - b))
    have g := ih (i + 1) (V i) (l ++ stB 9 (zgN (V i - b))) (by omega) (by rw [List.length_append]; omega)
    rw [List.append_assoc] at g
    refine aw_iload dX4_writeSteps_5 0 rfl ?_
    refine aw_aload_n dX4_writeSteps_7 3 rfl ?_
    refine aw_getI dX4_writeSteps_8 fl_X4_73 ((sT_emM M so 1 (so + 1) l).row hR).1 ((sT_emM M so 1 (so + 1) l).row hR).n0 ?_
    refine aw_topE ((congrFun (emM_I M l (show r ≠ so by omega) (show r ≠ so + 1 by omega)) 1).trans hz) ?_
    refine aw_icmp_geN i z 41 dX4_writeSteps_11 (by decide) rfl rfl (by omega) (by omega) (fun c1 => absurd c1 (by omega)) (fun c1 => ?_)
    refine aw_aload_n dX4_writeSteps_14 2 rfl ?_
    refine aw_aload_n dX4_writeSteps_15 3 rfl ?_
    refine aw_getR (b := r + 2) dX4_writeSteps_16 fl_X4_48 rfl ((sT_emM M so 1 (so + 1) l).row hR).1 ((sT_emM M so 1 (so + 1) l).row hR).n0 ((sT_emM M so 1 (so + 1) l).row hR).2.2.2.2.1 ?_
    refine aw_iload dX4_writeSteps_19 0 rfl ?_
    refine aw_laldN i dX4_writeSteps_21 ((sT_emM M so 1 (so + 1) l).row hR).2.2.1 ((sT_emM M so 1 (so + 1) l).row hR).n2 rfl (by omega) (by first | decide | omega) ?_
    refine aw_toplE (hV i (by omega)) ?_
    refine aw_lload_n dX4_writeSteps_22 1 rfl ?_
    refine aw_lsub dX4_writeSteps_23 ?_
    refine aw_callVv [.long ((V i) - b)] [] (sp_st (d := d - 1) (by omega) (l := l) ((V i) - b) hW (by omega)) dX4_writeSteps_24 ml_X4_105 im_X4_writeStep ((sT_emM M so 1 (so + 1) l).wr hW).1 ((sT_emM M so 1 (so + 1) l).wr hW).2.1 rfl rfl (dl1 (d := d) (by omega)) rfl rfl (Nat.le_of_ble_eq_true rfl) rfl rfl (Nat.zero_le _) (Nat.zero_le _) ?_
    refine aw_aload_n dX4_writeSteps_27 3 rfl ?_
    refine aw_getR (b := r + 2) dX4_writeSteps_28 fl_X4_48 rfl ((sT_emM M so 1 (so + 1) (l ++ stB 9 (zgN ((V i) - b)))).row hR).1 ((sT_emM M so 1 (so + 1) (l ++ stB 9 (zgN ((V i) - b)))).row hR).n0 ((sT_emM M so 1 (so + 1) (l ++ stB 9 (zgN ((V i) - b)))).row hR).2.2.2.2.1 ?_
    refine aw_iload dX4_writeSteps_31 0 rfl ?_
    refine aw_laldN i dX4_writeSteps_33 ((sT_emM M so 1 (so + 1) (l ++ stB 9 (zgN ((V i) - b)))).row hR).2.2.1 ((sT_emM M so 1 (so + 1) (l ++ stB 9 (zgN ((V i) - b)))).row hR).n2 rfl (by omega) (by first | decide | omega) ?_
    refine aw_toplE (hV i (by omega)) ?_
    refine aw_lstore_n [(2, .long (V i)), (4, .int (nI i)), (0, .ref w), (1, .ref r)] dX4_writeSteps_34 (Nat.le_of_ble_eq_true rfl) rfl ?_
    refine aw_iincN i 1 [(4, .int (nI (i + 1))), (2, .long (V i)), (0, .ref w), (1, .ref r)] dX4_writeSteps_35 1 rfl rfl rfl (Nat.le_of_ble_eq_true rfl) rfl ?_
    refine aw_goto 5 dX4_writeSteps_38 (by decide) ?_
    exact g
theorem sp_ss {d : Nat} (hd : 2 ≤ d) {M : xM} {w rw so : Nat} {l : List Int32} {r : Nat} (k z : Nat) (V : Nat → Int64) (hk8 : k < 8) (hW : WrAt M w rw so) (hR : RowAt M r) (hr : so + 1 < r) (hk : mI M r 0 = nI k) (hz : mI M r 1 = nI z) (hz2 : z ≤ 12) (hV : ∀ i, i < z → mL M (r + 2) i = V i) (hl : l.length + 10 * z ≤ 1464) : Sp (fX4_writeSteps d) [.ref w, .ref r] (emM M so 1 (so + 1) l) (dt none (emM M so 1 (so + 1) (l ++ ssB V z 0 0))) := by
  refine Sp.of pn_X4 (Nat.le_of_ble_eq_true rfl) (fun h => Bool.noConfusion h) ?_
  refine aw_lconst (v := 0) dX4_writeSteps_0 (by decide) ?_
  refine aw_lstore_n [(2, .long 0), (0, .ref w), (1, .ref r)] dX4_writeSteps_1 (Nat.le_of_ble_eq_true rfl) rfl ?_
  refine aw_iconst (v := 0) dX4_writeSteps_2 (by decide) ?_
  refine aw_istore [(4, .int 0), (2, .long 0), (0, .ref w), (1, .ref r)] dX4_writeSteps_3 (Nat.le_of_ble_eq_true rfl) rfl ?_
  exact lp_ss hd k z V hk8 hW hR hr hk hz hz2 hV z 0 0 l (by omega) hl
def ruB (k : Nat) (V : Nat → Int64) (z : Nat) : Nat → Nat → Nat → List Int32
  | 0, _, _ => []
  | n + 1, j, b => if j < z ∧ V j = V b then ruB k V z n (j + 1) b else nI (j - b) :: (nuC k (V b) ++ ruB k V z n (j + 1) j)
theorem ruB_len {k : Nat} (hk : k < 8) (V : Nat → Int64) (z : Nat) : ∀ n j b, (ruB k V z n j b).length ≤ 10 * n
  | 0, _, _ => Nat.le_refl _
  | n + 1, j, b => by
    have h1 := nuC_len hk (V b)
    have h2 := ruB_len hk V z n (j + 1) b
    have h3 := ruB_len hk V z n (j + 1) j
    unfold ruB
    split
    · omega
    · rw [List.length_cons, List.length_append]
      omega
theorem lp_ru {d : Nat} (hd : 4 ≤ d) {M : xM} {w rw so : Nat} {r : Nat} (k z : Nat) (V : Nat → Int64) (hk8 : k < 8) (hW : WrAt M w rw so) (hR : RowAt M r) (hr : so + 1 < r) (hk : mI M r 0 = nI k) (hz : mI M r 1 = nI z) (hz2 : z ≤ 12) (hV : ∀ i, i < z → mL M (r + 2) i = V i) : ∀ (n j b : Nat) (l : List Int32), j + n = z + 1 → b < j → l.length + 10 * n ≤ 1464 → AW (fX4_writeRuns d) 4 [(3, .int (nI j)), (2, .int (nI b)), (0, .ref w), (1, .ref r)] [] (emM M so 1 (so + 1) l) 0 0 (dt none (emM M so 1 (so + 1) (l ++ ruB k V z n j b))) := by
  intro n
  induction n with
  | zero =>
    intro j b l hi hb hl
    rw [show l ++ ruB k V z 0 j b = l from List.append_nil l]
    refine aw_iload_n dX4_writeRuns_4 0 rfl ?_
    refine aw_aload_n dX4_writeRuns_5 3 rfl ?_
    refine aw_getI dX4_writeRuns_6 fl_X4_73 ((sT_emM M so 1 (so + 1) l).row hR).1 ((sT_emM M so 1 (so + 1) l).row hR).n0 ?_
    refine aw_topE ((congrFun (emM_I M l (show r ≠ so by omega) (show r ≠ so + 1 by omega)) 1).trans hz) ?_
    refine aw_icmp_gtN j z 71 dX4_writeRuns_9 (by decide) rfl rfl (by omega) (by omega) (fun c1 => ?_) (fun c1 => absurd (by omega) c1)
    refine aw_ret dX4_writeRuns_71 rfl (Nat.zero_le _) (Nat.zero_le _) ?_
    exact ⟨rfl, rfl⟩
  | succ n ih =>
    intro j b l hi hb hl
    have hln := nuC_len hk8 (V b)
    by_cases c : j < z ∧ V j = V b
    · rw [show ruB k V z (n + 1) j b = ruB k V z n (j + 1) b from if_pos c]
      have g := ih (j + 1) b l (by omega) (by omega) (by omega)
      refine aw_iload_n dX4_writeRuns_4 0 rfl ?_
      refine aw_aload_n dX4_writeRuns_5 3 rfl ?_
      refine aw_getI dX4_writeRuns_6 fl_X4_73 ((sT_emM M so 1 (so + 1) l).row hR).1 ((sT_emM M so 1 (so + 1) l).row hR).n0 ?_
      refine aw_topE ((congrFun (emM_I M l (show r ≠ so by omega) (show r ≠ so + 1 by omega)) 1).trans hz) ?_
      refine aw_icmp_gtN j z 71 dX4_writeRuns_9 (by decide) rfl rfl (by omega) (by omega) (fun c1 => absurd c1 (by omega)) (fun c1 => ?_)
      refine aw_iload_n dX4_writeRuns_12 0 rfl ?_
      refine aw_aload_n dX4_writeRuns_13 3 rfl ?_
      refine aw_getI dX4_writeRuns_14 fl_X4_73 ((sT_emM M so 1 (so + 1) l).row hR).1 ((sT_emM M so 1 (so + 1) l).row hR).n0 ?_
      refine aw_topE ((congrFun (emM_I M l (show r ≠ so by omega) (show r ≠ so + 1 by omega)) 1).trans hz) ?_
      refine aw_icmp_geN j z 39 dX4_writeRuns_17 (by decide) rfl rfl (by omega) (by omega) (fun c2 => absurd c2 (by omega)) (fun c2 => ?_)
      refine aw_aload_n dX4_writeRuns_20 3 rfl ?_
      refine aw_getR (b := r + 2) dX4_writeRuns_21 fl_X4_48 rfl ((sT_emM M so 1 (so + 1) l).row hR).1 ((sT_emM M so 1 (so + 1) l).row hR).n0 ((sT_emM M so 1 (so + 1) l).row hR).2.2.2.2.1 ?_
      refine aw_iload_n dX4_writeRuns_24 0 rfl ?_
      refine aw_laldN j dX4_writeRuns_25 ((sT_emM M so 1 (so + 1) l).row hR).2.2.1 ((sT_emM M so 1 (so + 1) l).row hR).n2 rfl (by omega) (by first | decide | omega) ?_
      refine aw_toplE (hV j (by omega)) ?_
      refine aw_aload_n dX4_writeRuns_26 3 rfl ?_
      refine aw_getR (b := r + 2) dX4_writeRuns_27 fl_X4_48 rfl ((sT_emM M so 1 (so + 1) l).row hR).1 ((sT_emM M so 1 (so + 1) l).row hR).n0 ((sT_emM M so 1 (so + 1) l).row hR).2.2.2.2.1 ?_
      refine aw_iload_n dX4_writeRuns_30 1 rfl ?_
      refine aw_laldN b dX4_writeRuns_31 ((sT_emM M so 1 (so + 1) l).row hR).2.2.1 ((sT_emM M so 1 (so + 1) l).row hR).n2 rfl (by omega) (by first | decide | omega) ?_
      refine aw_toplE (hV b (by omega)) ?_
      refine aw_lne 39 dX4_writeRuns_32 dX4_writeRuns_33 (by decide) (fun c3 => absurd c.2 c3) (fun c3 => ?_)
      refine aw_goto 65 dX4_writeRuns_36 (by decide) ?_
      refine aw_iincN j 1 [(3, .int (nI (j + 1))), (2, .int (nI b)), (0, .ref w), (1, .ref r)] dX4_writeRuns_65 0 rfl rfl rfl (Nat.le_of_ble_eq_true rfl) rfl ?_
      refine aw_goto 4 dX4_writeRuns_68 (by decide) ?_
      exact g
    · have e : ruB k V z (n + 1) j b = nI (j - b) :: (nuC k (V b) ++ ruB k V z n (j + 1) j) := if_neg c
      have g := ih (j + 1) j (l ++ [nI (j - b)] ++ nuC k (V b)) (by omega) (by omega) (by rw [List.length_append, List.length_append, List.length_cons, List.length_nil]; omega)
      have e2 : l ++ [nI (j - b)] ++ nuC k (V b) ++ ruB k V z n (j + 1) j = l ++ ruB k V z (n + 1) j b := by rw [e]; simp
      rw [e2] at g
      by_cases cz : j < z
      · refine aw_iload_n dX4_writeRuns_4 0 rfl ?_
        refine aw_aload_n dX4_writeRuns_5 3 rfl ?_
        refine aw_getI dX4_writeRuns_6 fl_X4_73 ((sT_emM M so 1 (so + 1) l).row hR).1 ((sT_emM M so 1 (so + 1) l).row hR).n0 ?_
        refine aw_topE ((congrFun (emM_I M l (show r ≠ so by omega) (show r ≠ so + 1 by omega)) 1).trans hz) ?_
        refine aw_icmp_gtN j z 71 dX4_writeRuns_9 (by decide) rfl rfl (by omega) (by omega) (fun c1 => absurd c1 (by omega)) (fun c1 => ?_)
        refine aw_iload_n dX4_writeRuns_12 0 rfl ?_
        refine aw_aload_n dX4_writeRuns_13 3 rfl ?_
        refine aw_getI dX4_writeRuns_14 fl_X4_73 ((sT_emM M so 1 (so + 1) l).row hR).1 ((sT_emM M so 1 (so + 1) l).row hR).n0 ?_
        refine aw_topE ((congrFun (emM_I M l (show r ≠ so by omega) (show r ≠ so + 1 by omega)) 1).trans hz) ?_
        refine aw_icmp_geN j z 39 dX4_writeRuns_17 (by decide) rfl rfl (by omega) (by omega) (fun c2 => absurd c2 (by omega)) (fun c2 => ?_)
        refine aw_aload_n dX4_writeRuns_20 3 rfl ?_
        refine aw_getR (b := r + 2) dX4_writeRuns_21 fl_X4_48 rfl ((sT_emM M so 1 (so + 1) l).row hR).1 ((sT_emM M so 1 (so + 1) l).row hR).n0 ((sT_emM M so 1 (so + 1) l).row hR).2.2.2.2.1 ?_
        refine aw_iload_n dX4_writeRuns_24 0 rfl ?_
        refine aw_laldN j dX4_writeRuns_25 ((sT_emM M so 1 (so + 1) l).row hR).2.2.1 ((sT_emM M so 1 (so + 1) l).row hR).n2 rfl (by omega) (by first | decide | omega) ?_
        refine aw_toplE (hV j (by omega)) ?_
        refine aw_aload_n dX4_writeRuns_26 3 rfl ?_
        refine aw_getR (b := r + 2) dX4_writeRuns_27 fl_X4_48 rfl ((sT_emM M so 1 (so + 1) l).row hR).1 ((sT_emM M so 1 (so + 1) l).row hR).n0 ((sT_emM M so 1 (so + 1) l).row hR).2.2.2.2.1 ?_
        refine aw_iload_n dX4_writeRuns_30 1 rfl ?_
        refine aw_laldN b dX4_writeRuns_31 ((sT_emM M so 1 (so + 1) l).row hR).2.2.1 ((sT_emM M so 1 (so + 1) l).row hR).n2 rfl (by omega) (by first | decide | omega) ?_
        refine aw_toplE (hV b (by omega)) ?_
        refine aw_lne 39 dX4_writeRuns_32 dX4_writeRuns_33 (by decide) (fun c3 => ?_) (fun c3 => absurd ⟨cz, c3⟩ c)
        refine aw_aload_n dX4_writeRuns_39 2 rfl ?_
        refine aw_getR (b := so) dX4_writeRuns_40 fl_X4_26 rfl ((sT_emM M so 1 (so + 1) l).wr hW).1 ((sT_emM M so 1 (so + 1) l).wr hW).2.1 ((sT_emM M so 1 (so + 1) l).wr hW).2.2.2.1 ?_
        refine aw_iload_n dX4_writeRuns_43 0 rfl ?_
        refine aw_iload_n dX4_writeRuns_44 1 rfl ?_
        refine aw_isubN j b dX4_writeRuns_45 rfl rfl (by omega) ?_
        refine aw_callVv [.int (nI (j - b))] [] (sp_add (d := d - 1) (by omega) (l := l) (nI (j - b)) hW.2.2.2.2.2.2.2.1 (by omega)) dX4_writeRuns_46 ml_X4_56 im_X3_add ((sT_emM M so 1 (so + 1) l).wr hW).2.2.2.2.2.2.2.1.1 ((sT_emM M so 1 (so + 1) l).wr hW).2.2.2.2.2.2.2.1.n0 rfl rfl (dl1 (d := d) (by omega)) rfl rfl (Nat.le_of_ble_eq_true rfl) rfl rfl (Nat.zero_le _) (Nat.zero_le _) ?_
        refine aw_aload_n dX4_writeRuns_49 2 rfl ?_
        refine aw_aload_n dX4_writeRuns_50 3 rfl ?_
        refine aw_getI dX4_writeRuns_51 fl_X4_45 ((sT_emM M so 1 (so + 1) (l ++ [nI (j - b)])).row hR).1 ((sT_emM M so 1 (so + 1) (l ++ [nI (j - b)])).row hR).n0 ?_
        refine aw_topE ((congrFun (emM_I M (l ++ [nI (j - b)]) (show r ≠ so by omega) (show r ≠ so + 1 by omega)) 0).trans hk) ?_
        refine aw_aload_n dX4_writeRuns_54 3 rfl ?_
        refine aw_getR (b := r + 2) dX4_writeRuns_55 fl_X4_48 rfl ((sT_emM M so 1 (so + 1) (l ++ [nI (j - b)])).row hR).1 ((sT_emM M so 1 (so + 1) (l ++ [nI (j - b)])).row hR).n0 ((sT_emM M so 1 (so + 1) (l ++ [nI (j - b)])).row hR).2.2.2.2.1 ?_
        refine aw_iload_n dX4_writeRuns_58 1 rfl ?_
        refine aw_laldN b dX4_writeRuns_59 ((sT_emM M so 1 (so + 1) (l ++ [nI (j - b)])).row hR).2.2.1 ((sT_emM M so 1 (so + 1) (l ++ [nI (j - b)])).row hR).n2 rfl (by omega) (by first | decide | omega) ?_
        refine aw_toplE (hV b (by omega)) ?_
        refine aw_callVv [.int (nI k), .long (V b)] [] (sp_wn (d := d - 1) (by omega) (l := l ++ [nI (j - b)]) k (V b) hk8 hW (by rw [List.length_append, List.length_cons, List.length_nil]; omega)) dX4_writeRuns_60 ml_X4_87 im_X4_writeNumber ((sT_emM M so 1 (so + 1) (l ++ [nI (j - b)])).wr hW).1 ((sT_emM M so 1 (so + 1) (l ++ [nI (j - b)])).wr hW).2.1 rfl rfl (dl1 (d := d) (by omega)) rfl rfl (Nat.le_of_ble_eq_true rfl) rfl rfl (Nat.zero_le _) (Nat.zero_le _) ?_
        refine aw_iload_n dX4_writeRuns_63 0 rfl ?_
        refine aw_istore_n [(2, .int (nI j)), (3, .int (nI j)), (0, .ref w), (1, .ref r)] dX4_writeRuns_64 (Nat.le_of_ble_eq_true rfl) rfl ?_
        refine aw_iincN j 1 [(3, .int (nI (j + 1))), (2, .int (nI j)), (0, .ref w), (1, .ref r)] dX4_writeRuns_65 1 rfl rfl rfl (Nat.le_of_ble_eq_true rfl) rfl ?_
        refine aw_goto 4 dX4_writeRuns_68 (by decide) ?_
        exact g
      · refine aw_iload_n dX4_writeRuns_4 0 rfl ?_
        refine aw_aload_n dX4_writeRuns_5 3 rfl ?_
        refine aw_getI dX4_writeRuns_6 fl_X4_73 ((sT_emM M so 1 (so + 1) l).row hR).1 ((sT_emM M so 1 (so + 1) l).row hR).n0 ?_
        refine aw_topE ((congrFun (emM_I M l (show r ≠ so by omega) (show r ≠ so + 1 by omega)) 1).trans hz) ?_
        refine aw_icmp_gtN j z 71 dX4_writeRuns_9 (by decide) rfl rfl (by omega) (by omega) (fun c1 => absurd c1 (by omega)) (fun c1 => ?_)
        refine aw_iload_n dX4_writeRuns_12 0 rfl ?_
        refine aw_aload_n dX4_writeRuns_13 3 rfl ?_
        refine aw_getI dX4_writeRuns_14 fl_X4_73 ((sT_emM M so 1 (so + 1) l).row hR).1 ((sT_emM M so 1 (so + 1) l).row hR).n0 ?_
        refine aw_topE ((congrFun (emM_I M l (show r ≠ so by omega) (show r ≠ so + 1 by omega)) 1).trans hz) ?_
        refine aw_icmp_geN j z 39 dX4_writeRuns_17 (by decide) rfl rfl (by omega) (by omega) (fun c2 => ?_) (fun c2 => absurd (by omega) c2)
        refine aw_aload_n dX4_writeRuns_39 2 rfl ?_
        refine aw_getR (b := so) dX4_writeRuns_40 fl_X4_26 rfl ((sT_emM M so 1 (so + 1) l).wr hW).1 ((sT_emM M so 1 (so + 1) l).wr hW).2.1 ((sT_emM M so 1 (so + 1) l).wr hW).2.2.2.1 ?_
        refine aw_iload_n dX4_writeRuns_43 0 rfl ?_
        refine aw_iload_n dX4_writeRuns_44 1 rfl ?_
        refine aw_isubN j b dX4_writeRuns_45 rfl rfl (by omega) ?_
        refine aw_callVv [.int (nI (j - b))] [] (sp_add (d := d - 1) (by omega) (l := l) (nI (j - b)) hW.2.2.2.2.2.2.2.1 (by omega)) dX4_writeRuns_46 ml_X4_56 im_X3_add ((sT_emM M so 1 (so + 1) l).wr hW).2.2.2.2.2.2.2.1.1 ((sT_emM M so 1 (so + 1) l).wr hW).2.2.2.2.2.2.2.1.n0 rfl rfl (dl1 (d := d) (by omega)) rfl rfl (Nat.le_of_ble_eq_true rfl) rfl rfl (Nat.zero_le _) (Nat.zero_le _) ?_
        refine aw_aload_n dX4_writeRuns_49 2 rfl ?_
        refine aw_aload_n dX4_writeRuns_50 3 rfl ?_
        refine aw_getI dX4_writeRuns_51 fl_X4_45 ((sT_emM M so 1 (so + 1) (l ++ [nI (j - b)])).row hR).1 ((sT_emM M so 1 (so + 1) (l ++ [nI (j - b)])).row hR).n0 ?_
        refine aw_topE ((congrFun (emM_I M (l ++ [nI (j - b)]) (show r ≠ so by omega) (show r ≠ so + 1 by omega)) 0).trans hk) ?_
        refine aw_aload_n dX4_writeRuns_54 3 rfl ?_
        refine aw_getR (b := r + 2) dX4_writeRuns_55 fl_X4_48 rfl ((sT_emM M so 1 (so + 1) (l ++ [nI (j - b)])).row hR).1 ((sT_emM M so 1 (so + 1) (l ++ [nI (j - b)])).row hR).n0 ((sT_emM M so 1 (so + 1) (l ++ [nI (j - b)])).row hR).2.2.2.2.1 ?_
        refine aw_iload_n dX4_writeRuns_58 1 rfl ?_
        refine aw_laldN b dX4_writeRuns_59 ((sT_emM M so 1 (so + 1) (l ++ [nI (j - b)])).row hR).2.2.1 ((sT_emM M so 1 (so + 1) (l ++ [nI (j - b)])).row hR).n2 rfl (by omega) (by first | decide | omega) ?_
        refine aw_toplE (hV b (by omega)) ?_
        refine aw_callVv [.int (nI k), .long (V b)] [] (sp_wn (d := d - 1) (by omega) (l := l ++ [nI (j - b)]) k (V b) hk8 hW (by rw [List.length_append, List.length_cons, List.length_nil]; omega)) dX4_writeRuns_60 ml_X4_87 im_X4_writeNumber ((sT_emM M so 1 (so + 1) (l ++ [nI (j - b)])).wr hW).1 ((sT_emM M so 1 (so + 1) (l ++ [nI (j - b)])).wr hW).2.1 rfl rfl (dl1 (d := d) (by omega)) rfl rfl (Nat.le_of_ble_eq_true rfl) rfl rfl (Nat.zero_le _) (Nat.zero_le _) ?_
        refine aw_iload_n dX4_writeRuns_63 0 rfl ?_
        refine aw_istore_n [(2, .int (nI j)), (3, .int (nI j)), (0, .ref w), (1, .ref r)] dX4_writeRuns_64 (Nat.le_of_ble_eq_true rfl) rfl ?_
        refine aw_iincN j 1 [(3, .int (nI (j + 1))), (2, .int (nI j)), (0, .ref w), (1, .ref r)] dX4_writeRuns_65 1 rfl rfl rfl (Nat.le_of_ble_eq_true rfl) rfl ?_
        refine aw_goto 4 dX4_writeRuns_68 (by decide) ?_
        exact g
theorem sp_ru {d : Nat} (hd : 4 ≤ d) {M : xM} {w rw so : Nat} {l : List Int32} {r : Nat} (k z : Nat) (V : Nat → Int64) (hk8 : k < 8) (hW : WrAt M w rw so) (hR : RowAt M r) (hr : so + 1 < r) (hk : mI M r 0 = nI k) (hz : mI M r 1 = nI z) (hz2 : z ≤ 12) (hV : ∀ i, i < z → mL M (r + 2) i = V i) (hl : l.length + 10 * z ≤ 1464) : Sp (fX4_writeRuns d) [.ref w, .ref r] (emM M so 1 (so + 1) l) (dt none (emM M so 1 (so + 1) (l ++ ruB k V z z 1 0))) := by
  refine Sp.of pn_X4 (Nat.le_of_ble_eq_true rfl) (fun h => Bool.noConfusion h) ?_
  refine aw_iconst (v := 0) dX4_writeRuns_0 (by decide) ?_
  refine aw_istore_n [(2, .int 0), (0, .ref w), (1, .ref r)] dX4_writeRuns_1 (Nat.le_of_ble_eq_true rfl) rfl ?_
  refine aw_iconst (v := 1) dX4_writeRuns_2 (by decide) ?_
  refine aw_istore_n [(3, .int 1), (2, .int 0), (0, .ref w), (1, .ref r)] dX4_writeRuns_3 (Nat.le_of_ble_eq_true rfl) rfl ?_
  exact lp_ru hd k z V hk8 hW hR hr hk hz hz2 hV z 1 0 l (by omega) (by omega) hl
def dig : Nat → Nat → Nat
  | 0, _ => 0
  | f + 1, c => if c = 0 then 0 else dig f (c / 27) + 1
def leB (c : Nat) : Nat → List Int32
  | 0 => []
  | b + 1 => nI (96 + c / 27 ^ b % 27) :: leB c b
theorem leB_len (c : Nat) : ∀ b, (leB c b).length = b
  | 0 => rfl
  | b + 1 => by show (leB c b).length + 1 = _; rw [leB_len c b]
theorem dig_le : ∀ f c, dig f c ≤ f
  | 0, _ => Nat.le_refl _
  | f + 1, c => by
    unfold dig
    split
    · omega
    · have := dig_le f (c / 27); omega
def woB (c : Nat) : List Int32 := nI (dig 7 c) :: leB c (dig 7 c)
theorem lp_lo {d : Nat} {M : xM} (c b : Nat) (hb : b ≤ 7) : ∀ (n i x : Nat), i + n = b → x < 2 ^ 63 → AW (fX4_letterOf d) 5 [(5, .int (nI i)), (3, .long (lN x)), (0, .long (lN c)), (2, .int (nI b))] [] M 0 0 (dt (some (.int (nI (x / 27 ^ n % 27)))) M) := by
  intro n
  induction n with
  | zero =>
    intro i x hi hx
    rw [Nat.pow_zero, Nat.div_one]
    refine aw_iload dX4_letterOf_5 0 rfl ?_
    refine aw_iload_n dX4_letterOf_7 3 rfl ?_
    refine aw_icmp_geN i b 23 dX4_letterOf_8 (by decide) rfl rfl (by omega) (by omega) (fun c1 => ?_) (fun c1 => absurd (by omega) c1)
    refine aw_lload_n dX4_letterOf_23 1 rfl ?_
    refine aw_ldc2 dX4_letterOf_24 kc_X4_90 ?_
    refine aw_lremN x 27 dX4_letterOf_27 rfl rfl (by omega) (by first | decide | omega) (by first | decide | omega) ?_
    refine aw_l2iN (x % 27) dX4_letterOf_28 rfl ?_
    refine aw_iret dX4_letterOf_29 rfl (Nat.zero_le _) (Nat.zero_le _) ?_
    exact ⟨rfl, rfl⟩
  | succ n ih =>
    intro i x hi hx
    have g := ih (i + 1) (x / 27) (by omega) (by omega)
    rw [Nat.div_div_eq_div_mul, Nat.mul_comm, ← Nat.pow_succ] at g
    refine aw_iload dX4_letterOf_5 0 rfl ?_
    refine aw_iload_n dX4_letterOf_7 3 rfl ?_
    refine aw_icmp_geN i b 23 dX4_letterOf_8 (by decide) rfl rfl (by omega) (by omega) (fun c1 => absurd c1 (by omega)) (fun c1 => ?_)
    refine aw_lload_n dX4_letterOf_11 1 rfl ?_
    refine aw_ldc2 dX4_letterOf_12 kc_X4_90 ?_
    refine aw_ldivN x 27 dX4_letterOf_15 rfl rfl (by omega) (by first | decide | omega) (by first | decide | omega) ?_
    refine aw_lstore_n [(3, .long (lN (x / 27))), (5, .int (nI i)), (0, .long (lN c)), (2, .int (nI b))] dX4_letterOf_16 (Nat.le_of_ble_eq_true rfl) rfl ?_
    refine aw_iincN i 1 [(5, .int (nI (i + 1))), (3, .long (lN (x / 27))), (0, .long (lN c)), (2, .int (nI b))] dX4_letterOf_17 1 rfl rfl rfl (Nat.le_of_ble_eq_true rfl) rfl ?_
    refine aw_goto 5 dX4_letterOf_20 (by decide) ?_
    exact g
theorem sp_lo {d : Nat} (hd : 0 ≤ d) {M : xM} (c b : Nat) (hb : b ≤ 7) (hc : c < 2 ^ 63) : Sp (fX4_letterOf d) [.long (lN c), .int (nI b)] M (dt (some (.int (nI (c / 27 ^ b % 27)))) M) := by
  refine Sp.of pn_X4 (Nat.le_of_ble_eq_true rfl) (fun h => Bool.noConfusion h) ?_
  refine aw_lload_n dX4_letterOf_0 0 rfl ?_
  refine aw_lstore_n [(3, .long (lN c)), (0, .long (lN c)), (2, .int (nI b))] dX4_letterOf_1 (Nat.le_of_ble_eq_true rfl) rfl ?_
  refine aw_iconst (v := 0) dX4_letterOf_2 (by decide) ?_
  refine aw_istore [(5, .int 0), (3, .long (lN c)), (0, .long (lN c)), (2, .int (nI b))] dX4_letterOf_3 (Nat.le_of_ble_eq_true rfl) rfl ?_
  exact lp_lo c b hb b 0 c (by omega) hc
theorem lp_lc {d : Nat} {M : xM} {w c : Nat} {post : Option Value → xM → Prop} : ∀ (f n x : Nat), n + f = 7 → x < 2 ^ 63 → (∀ y, AW (fX4_writeLetters d) 32 [(4, .long y), (3, .int (nI (n + dig f x))), (0, .ref w), (1, .long (lN c))] [] M 0 0 post) → AW (fX4_writeLetters d) 5 [(4, .long (lN x)), (3, .int (nI n)), (0, .ref w), (1, .long (lN c))] [] M 0 0 post := by
  intro f
  induction f with
  | zero =>
    intro n x hn hx hk
    rw [show n + dig 0 x = n from rfl] at hk
    by_cases c0 : x = 0
    · refine aw_lload dX4_writeLetters_5 0 rfl ?_
      refine aw_lconst (v := 0) dX4_writeLetters_7 (by decide) ?_
      refine aw_lleN x 0 32 dX4_writeLetters_8 dX4_writeLetters_9 (by decide) rfl rfl (by omega) (by omega) (fun c1 => ?_) (fun c1 => absurd (by omega) c1)
      exact hk _
    · refine aw_lload dX4_writeLetters_5 0 rfl ?_
      refine aw_lconst (v := 0) dX4_writeLetters_7 (by decide) ?_
      refine aw_lleN x 0 32 dX4_writeLetters_8 dX4_writeLetters_9 (by decide) rfl rfl (by omega) (by omega) (fun c1 => absurd c1 (by omega)) (fun c1 => ?_)
      refine aw_iload_n dX4_writeLetters_12 1 rfl ?_
      refine aw_bipush (v := 7) dX4_writeLetters_13 (by decide) ?_
      refine aw_icmp_geN n 7 32 dX4_writeLetters_15 (by decide) rfl rfl (by omega) (by omega) (fun c2 => ?_) (fun c2 => absurd (by omega) c2)
      exact hk _
  | succ f ih =>
    intro n x hn hx hk
    by_cases c0 : x = 0
    · rw [show dig (f + 1) x = 0 from if_pos c0, Nat.add_zero] at hk
      refine aw_lload dX4_writeLetters_5 0 rfl ?_
      refine aw_lconst (v := 0) dX4_writeLetters_7 (by decide) ?_
      refine aw_lleN x 0 32 dX4_writeLetters_8 dX4_writeLetters_9 (by decide) rfl rfl (by omega) (by omega) (fun c1 => ?_) (fun c1 => absurd (by omega) c1)
      exact hk _
    · rw [show dig (f + 1) x = dig f (x / 27) + 1 from if_neg c0] at hk
      have g := ih (n + 1) (x / 27) (by omega) (by omega) (fun y => by rw [show n + 1 + dig f (x / 27) = n + (dig f (x / 27) + 1) by omega]; exact hk y)
      refine aw_lload dX4_writeLetters_5 0 rfl ?_
      refine aw_lconst (v := 0) dX4_writeLetters_7 (by decide) ?_
      refine aw_lleN x 0 32 dX4_writeLetters_8 dX4_writeLetters_9 (by decide) rfl rfl (by omega) (by omega) (fun c1 => absurd c1 (by omega)) (fun c1 => ?_)
      refine aw_iload_n dX4_writeLetters_12 1 rfl ?_
      refine aw_bipush (v := 7) dX4_writeLetters_13 (by decide) ?_
      refine aw_icmp_geN n 7 32 dX4_writeLetters_15 (by decide) rfl rfl (by omega) (by omega) (fun c2 => absurd c2 (by omega)) (fun c2 => ?_)
      refine aw_iincN n 1 [(3, .int (nI (n + 1))), (4, .long (lN x)), (0, .ref w), (1, .long (lN c))] dX4_writeLetters_18 1 rfl rfl rfl (Nat.le_of_ble_eq_true rfl) rfl ?_
      refine aw_lload dX4_writeLetters_21 1 rfl ?_
      refine aw_ldc2 dX4_writeLetters_23 kc_X4_90 ?_
      refine aw_ldivN x 27 dX4_writeLetters_26 rfl rfl (by omega) (by first | decide | omega) (by first | decide | omega) ?_
      refine aw_lstore [(4, .long (lN (x / 27))), (3, .int (nI (n + 1))), (0, .ref w), (1, .long (lN c))] dX4_writeLetters_27 (Nat.le_of_ble_eq_true rfl) rfl ?_
      refine aw_goto 5 dX4_writeLetters_29 (by decide) ?_
      exact g
theorem lp_le {d : Nat} (hd : 1 ≤ d) {M : xM} {w rw so c m : Nat} (hc : c < 2 ^ 63) (hW : WrAt M w rw so) : ∀ (j : Nat) (l : List Int32), j ≤ 7 → l.length + j ≤ 1464 → AW (fX4_writeLetters d) 45 [(4, .int (dn j)), (3, .int (nI m)), (0, .ref w), (1, .long (lN c))] [] (emM M so 1 (so + 1) l) 0 0 (dt none (emM M so 1 (so + 1) (l ++ leB c j))) := by
  intro j
  induction j with
  | zero =>
    intro l h1 h2
    rw [show l ++ leB c 0 = l from List.append_nil l]
    refine aw_iload dX4_writeLetters_45 0 rfl ?_
    refine aw_if_lt 72 dX4_writeLetters_47 (by decide) (fun c1 => ?_) (fun c1 => absurd (by decide) c1)
    refine aw_ret dX4_writeLetters_72 rfl (Nat.zero_le _) (Nat.zero_le _) ?_
    exact ⟨rfl, rfl⟩
  | succ j ih =>
    intro l h1 h2
    have n0 : ¬ nI j < 0 := fun z => by have := Int32.lt_iff_toInt_lt.mp z; rw [nI_toInt (by omega)] at this; have e0 : (0 : Int32).toInt = 0 := rfl; omega
    have g := ih (l ++ [nI (96 + c / 27 ^ j % 27)]) (by omega) (by simp only [List.length_append, List.length_cons, List.length_nil]; omega)
    rw [List.append_assoc, show [nI (96 + c / 27 ^ j % 27)] ++ leB c j = leB c (j + 1) from rfl] at g
    refine aw_iload dX4_writeLetters_45 0 rfl ?_
    refine aw_if_lt 72 dX4_writeLetters_47 (by decide) (fun c1 => absurd c1 n0) (fun c1 => ?_)
    refine aw_aload_n dX4_writeLetters_50 2 rfl ?_
    refine aw_getR (b := so) dX4_writeLetters_51 fl_X4_26 rfl ((sT_emM M so 1 (so + 1) l).wr hW).1 ((sT_emM M so 1 (so + 1) l).wr hW).2.1 ((sT_emM M so 1 (so + 1) l).wr hW).2.2.2.1 ?_
    refine aw_bipush (v := 96) dX4_writeLetters_54 (by decide) ?_
    refine aw_lload_n dX4_writeLetters_56 3 rfl ?_
    refine aw_iload dX4_writeLetters_57 0 rfl ?_
    refine aw_callSi [.long (lN c), .int (nI j)] [.int 96, .ref so] (sp_lo (d := d - 1) (by omega) c j (by omega) hc) dX4_writeLetters_59 ml_X4_92 sm_X4_letterOf rfl (dl1 (d := d) (by omega)) rfl rfl (Nat.le_of_ble_eq_true rfl) rfl rfl (Nat.zero_le _) (Nat.zero_le _) ?_
    refine aw_iaddN 96 (c / 27 ^ j % 27) dX4_writeLetters_62 rfl rfl ?_
    refine aw_callVv [.int (nI (96 + (c / 27 ^ j % 27)))] [] (sp_add (d := d - 1) (by omega) (l := l) (nI (96 + (c / 27 ^ j % 27))) hW.2.2.2.2.2.2.2.1 (by omega)) dX4_writeLetters_63 ml_X4_56 im_X3_add ((sT_emM M so 1 (so + 1) l).wr hW).2.2.2.2.2.2.2.1.1 ((sT_emM M so 1 (so + 1) l).wr hW).2.2.2.2.2.2.2.1.n0 rfl rfl (dl1 (d := d) (by omega)) rfl rfl (Nat.le_of_ble_eq_true rfl) rfl rfl (Nat.zero_le _) (Nat.zero_le _) ?_
    obtain ⟨v2, ev2⟩ : ∃ y : Int32, y = (nI j) + (-1) := ⟨_, rfl⟩
    refine aw_iinc v2 [(4, .int v2), (3, .int (nI m)), (0, .ref w), (1, .long (lN c))] dX4_writeLetters_66 0 rfl (by rw [ev2]; rfl) (Nat.le_of_ble_eq_true rfl) rfl ?_
    refine aw_goto 45 dX4_writeLetters_69 (by decide) ?_
    rw [show v2 = dn j from (ev2).trans (dn_s j)]
    exact g
theorem dn_1 (m : Nat) : nI m - 1 = dn m := by
  rw [Int32.sub_eq_add_neg]
  exact dn_s m
theorem sp_le {d : Nat} (hd : 1 ≤ d) {M : xM} {w rw so : Nat} {l : List Int32} (c : Nat) (hc : c < 2 ^ 63) (hW : WrAt M w rw so) (hl : l.length + 8 ≤ 1464) : Sp (fX4_writeLetters d) [.ref w, .long (lN c)] (emM M so 1 (so + 1) l) (dt none (emM M so 1 (so + 1) (l ++ woB c))) := by
  refine Sp.of pn_X4 (Nat.le_of_ble_eq_true rfl) (fun h => Bool.noConfusion h) ?_
  have h7 := dig_le 7 c
  have g := fun l' h => lp_le (m := dig 7 c) hd hc hW (dig 7 c) l' h7 h
  refine aw_iconst (v := 0) dX4_writeLetters_0 (by decide) ?_
  refine aw_istore_n [(3, .int 0), (0, .ref w), (1, .long (lN c))] dX4_writeLetters_1 (Nat.le_of_ble_eq_true rfl) rfl ?_
  refine aw_lload_n dX4_writeLetters_2 2 rfl ?_
  refine aw_lstore [(4, .long (lN c)), (3, .int 0), (0, .ref w), (1, .long (lN c))] dX4_writeLetters_3 (Nat.le_of_ble_eq_true rfl) rfl ?_
  refine lp_lc 7 0 c (by omega) hc (fun y => ?_)
  rw [Nat.zero_add]
  refine aw_aload_n dX4_writeLetters_32 2 rfl ?_
  refine aw_getR (b := so) dX4_writeLetters_33 fl_X4_26 rfl ((sT_emM M so 1 (so + 1) l).wr hW).1 ((sT_emM M so 1 (so + 1) l).wr hW).2.1 ((sT_emM M so 1 (so + 1) l).wr hW).2.2.2.1 ?_
  refine aw_iload_n dX4_writeLetters_36 1 rfl ?_
  refine aw_callVv [.int (nI (dig 7 c))] [] (sp_add (d := d - 1) (by omega) (l := l) (nI (dig 7 c)) hW.2.2.2.2.2.2.2.1 (by omega)) dX4_writeLetters_37 ml_X4_56 im_X3_add ((sT_emM M so 1 (so + 1) l).wr hW).2.2.2.2.2.2.2.1.1 ((sT_emM M so 1 (so + 1) l).wr hW).2.2.2.2.2.2.2.1.n0 rfl rfl (dl1 (d := d) (by omega)) rfl rfl (Nat.le_of_ble_eq_true rfl) rfl rfl (Nat.zero_le _) (Nat.zero_le _) ?_
  refine aw_iload_n dX4_writeLetters_40 1 rfl ?_
  refine aw_iconst (v := 1) dX4_writeLetters_41 (by decide) ?_
  refine aw_isub dX4_writeLetters_42 ?_
  refine aw_topE (dn_1 _) ?_
  refine aw_istore [(4, .int (dn (dig 7 c))), (3, .int (nI (dig 7 c))), (0, .ref w), (1, .long (lN c))] dX4_writeLetters_43 (Nat.le_of_ble_eq_true rfl) rfl ?_
  have q := g (l ++ [nI (dig 7 c)]) (by rw [List.length_append, List.length_cons, List.length_nil]; omega)
  rw [List.append_assoc] at q
  exact q
