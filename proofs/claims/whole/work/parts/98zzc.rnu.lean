-- THE REFERENCE READS NUMBERS, STEPS, WORDS
theorem sg_f (B : Nat → Nat) (p n : Nat) : folB B n p (if true = true ∧ 127 < B p then -1 else 0) = sgB B p n := by
  unfold sgB
  by_cases c : B p < 128
  · rw [if_pos c, if_neg (by omega)]
  · rw [if_neg c, if_pos ⟨rfl, by omega⟩]
theorem wd2 : ∀ k, k < 8 → sX6_width (nI k) = nI (wid2 k) := by decide
theorem sp_isF {d : Nat} {M : xM} {k e : Nat} (m : Int64) (hk : k = 6 ∨ k = 7) (he : e < 256) : Sp (fX6_isFraction d) [.int (nI k), .int (nI e), .long m] M (dt (some (.int (bz (sX1_isScaled (nI k) m (nI e))))) M) := by
  rcases m_cases m with rfl | rfl | ⟨s, n, h0, hn, rfl⟩
  · rw [isS_0 he]; exact sp_ifz hk he
  · rw [isS_m]; exact sp_ifm hk he
  · rw [isS_eq hk s h0 hn he]
    rcases hk with rfl | rfl
    · exact sp_if6 s h0 hn he (zF_of s h0 hn)
    · exact sp_if7 s h0 hn he (zF_of s h0 hn)
theorem lp_rnD {d : Nat} {M : xM} {k0 e w : Nat} {m : Int64} (s : Bool) (c : Nat) {r : Int} (h : nrm c r) (he : e < 256) {post : Option Value → xM → Prop} : ∀ (n i : Nat) (q : Int), i + n = e → -200 ≤ q → q + n ≤ 200 → AW (fX6_readsNumber d) 183 [(10, .int (nI e)), (8, .double (nd s c (q + n))), (6, .long m), (5, .int (nI e)), (2, .int (nI w)), (0, .ref 0), (1, .int (nI k0))] [] M 0 0 post → AW (fX6_readsNumber d) 162 [(10, .int (nI i)), (8, .double (nd s c q)), (6, .long m), (5, .int (nI e)), (2, .int (nI w)), (0, .ref 0), (1, .int (nI k0))] [] M 0 0 post := by
  intro n
  induction n with
  | zero =>
    intro i q hi h1 h2 k
    obtain rfl : i = e := by omega
    rw [show q + ((0 : Nat) : Int) = q by omega] at k
    refine aw_iload dX6_readsNumber_162 0 rfl ?_
    refine aw_iload dX6_readsNumber_164 3 rfl ?_
    refine aw_icmp_geN i i 183 dX6_readsNumber_166 (by decide) rfl rfl (by omega) (by omega) (fun c1 => ?_) (fun c1 => absurd (by omega) c1)
    exact k
  | succ n ih =>
    intro i q hi h1 h2 k
    have g := ih (i + 1) (q + 1) (by omega) (by omega) (by omega) (by rw [show q + 1 + (n : Int) = q + ((n + 1 : Nat) : Int) by omega]; exact k)
    refine aw_iload dX6_readsNumber_162 0 rfl ?_
    refine aw_iload dX6_readsNumber_164 3 rfl ?_
    refine aw_icmp_geN i e 183 dX6_readsNumber_166 (by decide) rfl rfl (by omega) (by omega) (fun c1 => absurd c1 (by omega)) (fun c1 => ?_)
    refine aw_dload dX6_readsNumber_169 1 rfl ?_
    refine aw_ldc2d dX6_readsNumber_171 kc_X6_91 ?_
    refine aw_dmul dX6_readsNumber_174 (n64e (dmul_p 1 (nrmw q h (by omega) (by omega)) (nrmw (q + 1) h (by omega) (by omega)) k2) ((nrmw (q + 1) h (by omega) (by omega)).n s)) ?_
    refine aw_topdE (dmul_p 1 (nrmw q h (by omega) (by omega)) (nrmw (q + 1) h (by omega) (by omega)) k2) ?_
    refine aw_dstore [(8, .double (nd s c (q + 1))), (10, .int (nI i)), (6, .long m), (5, .int (nI e)), (2, .int (nI w)), (0, .ref 0), (1, .int (nI k0))] dX6_readsNumber_175 (Nat.le_of_ble_eq_true rfl) rfl ?_
    refine aw_iincN i 1 [(10, .int (nI (i + 1))), (8, .double (nd s c (q + 1))), (6, .long m), (5, .int (nI e)), (2, .int (nI w)), (0, .ref 0), (1, .int (nI k0))] dX6_readsNumber_177 1 rfl rfl rfl (Nat.le_of_ble_eq_true rfl) rfl ?_
    refine aw_goto 162 dX6_readsNumber_180 (by decide) ?_
    exact g
theorem sp_rn {d : Nat} (hd : 2 ≤ d) {M : xM} {B : Nat → Nat} {L : Nat} {k p : Nat} (hS : RfS M B L) (hp : mI M 0 24 = nI p) (hpl : p ≤ L) (hf0 : mI M 0 25 = -1) (hk : k < 8) : Sp (fX6_readsNumber d) [.ref 0, .int (nI k)] M (QL M (pNum B L k p)) := by
  refine Sp.of pn_X6 (Nat.le_of_ble_eq_true rfl) (fun h => Bool.noConfusion h) ?_
  have hL2 := hS.2.1
  obtain ⟨w1, w2⟩ := wd_p k hk
  unfold pNum
  by_cases c6 : k < 6
  · have ew : wid2 k = wdK k := if_pos c6
    rw [ew]
    by_cases cl : p + (wdK k) ≤ L
    · rw [if_pos cl]
      have hB : ∀ i, i < p + wdK k → p ≤ i → B i < 256 := fun i h1 h2 => (hS.2.2.2 i (by omega)).2
      have hb := hB p (by omega) (Nat.le_refl _)
      rw [numV_I c6 hB]
      by_cases k0 : k = 0
      · subst k0
        have er0 : refI B 0 p = lN (B p) := by
          unfold refI
          rw [if_neg (by omega)]
          have q := folB_v 1 p 0 hB
          rw [show valB B 1 p 0 = B p by show 0 * 256 + B p = B p; omega] at q
          exact q
        have er : folB B (wdK 0) p (if false = true ∧ 127 < B p then -1 else 0) = lN (B p) := by
          rw [if_neg (fun z => by cases z.1)]
          unfold refI at er0
          rw [if_neg (by omega)] at er0
          exact er0
        by_cases c1 : 1 < B p
        · rw [if_pos ⟨rfl, c1⟩]
          refine aw_iload_n dX6_readsNumber_0 1 rfl ?_
          refine aw_callSi [.int (nI 0)] [] (sp_X6_width (d := d - 1) (by omega) (nI 0) ) dX6_readsNumber_1 ml_X6_306 sm_X6_width rfl (dl1 (d := d) (by omega)) rfl rfl (Nat.le_of_ble_eq_true rfl) rfl rfl (Nat.zero_le _) (Nat.zero_le _) ?_
          refine aw_topE ((wd2 0 hk).trans (congrArg nI ew)) ?_
          refine aw_istore_n [(2, .int (nI (wdK 0))), (0, .ref 0), (1, .int (nI 0))] dX6_readsNumber_4 (Nat.le_of_ble_eq_true rfl) rfl ?_
          refine aw_aload_n dX6_readsNumber_5 1 rfl ?_
          refine aw_getI dX6_readsNumber_6 fl_X6_289 (hS.1.s 0 (by decide)) (hS.1.n 0 (by decide)) ?_
          refine aw_topE hp ?_
          refine aw_iload_n dX6_readsNumber_9 0 rfl ?_
          refine aw_iaddN p (wdK 0) dX6_readsNumber_10 rfl rfl ?_
          refine aw_aload_n dX6_readsNumber_11 1 rfl ?_
          refine aw_getI dX6_readsNumber_12 fl_X6_286 (hS.1.s 0 (by decide)) (hS.1.n 0 (by decide)) ?_
          refine aw_topE hS.2.2.1 ?_
          refine aw_icmp_leN (p + (wdK 0)) L 28 dX6_readsNumber_15 (by decide) rfl rfl (by omega) (by omega) (fun c1 => ?_) (fun c1 => absurd (by omega) c1)
          refine aw_iload_n dX6_readsNumber_28 2 rfl ?_
          refine aw_bipush (v := 6) dX6_readsNumber_29 (by decide) ?_
          refine aw_icmp_geN 0 6 84 dX6_readsNumber_31 (by decide) rfl rfl (by omega) (by omega) (fun c2 => absurd c2 (by omega)) (fun c2 => ?_)
          refine aw_aload_n dX6_readsNumber_34 1 rfl ?_
          refine aw_iload_n dX6_readsNumber_35 0 rfl ?_
          refine aw_iload_n dX6_readsNumber_36 2 rfl ?_
          refine aw_if_eq 49 dX6_readsNumber_37 (by decide) (fun c3 => ?_) (fun c3 => absurd rfl c3)
          refine aw_iconst (v := 0) dX6_readsNumber_49 (by decide) ?_
          refine aw_callVl [.int (nI (wdK 0)), .int 0] [] (sp_rw (d := d - 1) false hS hp (by omega) (by omega)) dX6_readsNumber_50 ml_X6_309 im_X6_readsWhole (hS.1.s 0 (by decide)) (hS.1.n 0 (by decide)) rfl rfl (dl1 (d := d) (by omega)) rfl rfl (Nat.le_of_ble_eq_true rfl) rfl rfl (Nat.zero_le _) (Nat.zero_le _) ?_
          refine aw_toplE er ?_
          refine aw_lstore_n [(3, .long (lN (B p))), (2, .int (nI (wdK 0))), (0, .ref 0), (1, .int (nI 0))] dX6_readsNumber_53 (Nat.le_of_ble_eq_true rfl) rfl ?_
          refine aw_iload_n dX6_readsNumber_54 3 rfl ?_
          refine aw_if_ne 72 dX6_readsNumber_55 (by decide) (fun c4 => absurd rfl c4) (fun c4 => ?_)
          refine aw_lload_n dX6_readsNumber_58 0 rfl ?_
          refine aw_lconst (v := 1) dX6_readsNumber_59 (by decide) ?_
          refine aw_lleN (B p) 1 72 dX6_readsNumber_60 dX6_readsNumber_61 (by decide) rfl rfl (by omega) (by omega) (fun c5 => absurd c5 (by omega)) (fun c5 => ?_)
          refine aw_aload_n dX6_readsNumber_64 2 rfl ?_
          refine aw_aload_n dX6_readsNumber_65 2 rfl ?_
          refine aw_getI dX6_readsNumber_66 fl_X6_289 (hS.1.s 0 (by decide)) (hS.1.n 0 (by decide)) ?_
          refine aw_topE hp ?_
          refine aw_callVv [.int (nI p)] [] (sp_fa (d := d - 1) (nI p) hS.1 hf0) dX6_readsNumber_69 ml_X6_295 im_X6_faults (hS.1.s 0 (by decide)) (hS.1.n 0 (by decide)) rfl rfl (dl1 (d := d) (by omega)) rfl rfl (Nat.le_of_ble_eq_true rfl) rfl rfl (Nat.zero_le _) (Nat.zero_le _) ?_
          refine aw_aload_n dX6_readsNumber_72 2 rfl ?_
          refine aw_dup dX6_readsNumber_73 rfl ?_
          refine aw_getI dX6_readsNumber_74 fl_X6_289 ((hS.i 25 (nI p) (by decide)).1.s 0 (by decide)) ((hS.i 25 (nI p) (by decide)).1.n 0 (by decide)) ?_
          refine aw_topE ((mI_stI_o _ _ _ _ (by decide)).trans hp) ?_
          refine aw_iload_n dX6_readsNumber_77 1 rfl ?_
          refine aw_iaddN p (wdK 0) dX6_readsNumber_78 rfl rfl ?_
          refine aw_putI dX6_readsNumber_79 fl_X6_289 (Or.inl rfl) ((hS.i 25 (nI p) (by decide)).1.s 0 (by decide)) ((hS.i 25 (nI p) (by decide)).1.n 0 (by decide)) ?_
          refine aw_lload_n dX6_readsNumber_82 0 rfl ?_
          refine aw_lret dX6_readsNumber_83 rfl (Nat.zero_le _) (Nat.zero_le _) ?_
          exact ⟨⟨_, rfl⟩, (FE_f M p).s _⟩
        · rw [if_neg (fun z => c1 z.2), er0]
          refine aw_iload_n dX6_readsNumber_0 1 rfl ?_
          refine aw_callSi [.int (nI 0)] [] (sp_X6_width (d := d - 1) (by omega) (nI 0) ) dX6_readsNumber_1 ml_X6_306 sm_X6_width rfl (dl1 (d := d) (by omega)) rfl rfl (Nat.le_of_ble_eq_true rfl) rfl rfl (Nat.zero_le _) (Nat.zero_le _) ?_
          refine aw_topE ((wd2 0 hk).trans (congrArg nI ew)) ?_
          refine aw_istore_n [(2, .int (nI (wdK 0))), (0, .ref 0), (1, .int (nI 0))] dX6_readsNumber_4 (Nat.le_of_ble_eq_true rfl) rfl ?_
          refine aw_aload_n dX6_readsNumber_5 1 rfl ?_
          refine aw_getI dX6_readsNumber_6 fl_X6_289 (hS.1.s 0 (by decide)) (hS.1.n 0 (by decide)) ?_
          refine aw_topE hp ?_
          refine aw_iload_n dX6_readsNumber_9 0 rfl ?_
          refine aw_iaddN p (wdK 0) dX6_readsNumber_10 rfl rfl ?_
          refine aw_aload_n dX6_readsNumber_11 1 rfl ?_
          refine aw_getI dX6_readsNumber_12 fl_X6_286 (hS.1.s 0 (by decide)) (hS.1.n 0 (by decide)) ?_
          refine aw_topE hS.2.2.1 ?_
          refine aw_icmp_leN (p + (wdK 0)) L 28 dX6_readsNumber_15 (by decide) rfl rfl (by omega) (by omega) (fun c1 => ?_) (fun c1 => absurd (by omega) c1)
          refine aw_iload_n dX6_readsNumber_28 2 rfl ?_
          refine aw_bipush (v := 6) dX6_readsNumber_29 (by decide) ?_
          refine aw_icmp_geN 0 6 84 dX6_readsNumber_31 (by decide) rfl rfl (by omega) (by omega) (fun c2 => absurd c2 (by omega)) (fun c2 => ?_)
          refine aw_aload_n dX6_readsNumber_34 1 rfl ?_
          refine aw_iload_n dX6_readsNumber_35 0 rfl ?_
          refine aw_iload_n dX6_readsNumber_36 2 rfl ?_
          refine aw_if_eq 49 dX6_readsNumber_37 (by decide) (fun c3 => ?_) (fun c3 => absurd rfl c3)
          refine aw_iconst (v := 0) dX6_readsNumber_49 (by decide) ?_
          refine aw_callVl [.int (nI (wdK 0)), .int 0] [] (sp_rw (d := d - 1) false hS hp (by omega) (by omega)) dX6_readsNumber_50 ml_X6_309 im_X6_readsWhole (hS.1.s 0 (by decide)) (hS.1.n 0 (by decide)) rfl rfl (dl1 (d := d) (by omega)) rfl rfl (Nat.le_of_ble_eq_true rfl) rfl rfl (Nat.zero_le _) (Nat.zero_le _) ?_
          refine aw_toplE er ?_
          refine aw_lstore_n [(3, .long (lN (B p))), (2, .int (nI (wdK 0))), (0, .ref 0), (1, .int (nI 0))] dX6_readsNumber_53 (Nat.le_of_ble_eq_true rfl) rfl ?_
          refine aw_iload_n dX6_readsNumber_54 3 rfl ?_
          refine aw_if_ne 72 dX6_readsNumber_55 (by decide) (fun c4 => absurd rfl c4) (fun c4 => ?_)
          refine aw_lload_n dX6_readsNumber_58 0 rfl ?_
          refine aw_lconst (v := 1) dX6_readsNumber_59 (by decide) ?_
          refine aw_lleN (B p) 1 72 dX6_readsNumber_60 dX6_readsNumber_61 (by decide) rfl rfl (by omega) (by omega) (fun c5 => ?_) (fun c5 => absurd (by omega) c5)
          refine aw_aload_n dX6_readsNumber_72 2 rfl ?_
          refine aw_dup dX6_readsNumber_73 rfl ?_
          refine aw_getI dX6_readsNumber_74 fl_X6_289 (hS.1.s 0 (by decide)) (hS.1.n 0 (by decide)) ?_
          refine aw_topE hp ?_
          refine aw_iload_n dX6_readsNumber_77 1 rfl ?_
          refine aw_iaddN p (wdK 0) dX6_readsNumber_78 rfl rfl ?_
          refine aw_putI dX6_readsNumber_79 fl_X6_289 (Or.inl rfl) (hS.1.s 0 (by decide)) (hS.1.n 0 (by decide)) ?_
          refine aw_lload_n dX6_readsNumber_82 0 rfl ?_
          refine aw_lret dX6_readsNumber_83 rfl (Nat.zero_le _) (Nat.zero_le _) ?_
          exact ⟨rfl, rfl⟩
      · rw [if_neg (fun z => k0 z.1)]
        by_cases k2 : k = 2
        · have er : folB B (wdK k) p (if false = true ∧ 127 < B p then -1 else 0) = refI B k p := by
            unfold refI
            rw [if_neg (fun z => by cases z.1), if_neg (by omega)]
          refine aw_iload_n dX6_readsNumber_0 1 rfl ?_
          refine aw_callSi [.int (nI k)] [] (sp_X6_width (d := d - 1) (by omega) (nI k) ) dX6_readsNumber_1 ml_X6_306 sm_X6_width rfl (dl1 (d := d) (by omega)) rfl rfl (Nat.le_of_ble_eq_true rfl) rfl rfl (Nat.zero_le _) (Nat.zero_le _) ?_
          refine aw_topE ((wd2 k hk).trans (congrArg nI ew)) ?_
          refine aw_istore_n [(2, .int (nI (wdK k))), (0, .ref 0), (1, .int (nI k))] dX6_readsNumber_4 (Nat.le_of_ble_eq_true rfl) rfl ?_
          refine aw_aload_n dX6_readsNumber_5 1 rfl ?_
          refine aw_getI dX6_readsNumber_6 fl_X6_289 (hS.1.s 0 (by decide)) (hS.1.n 0 (by decide)) ?_
          refine aw_topE hp ?_
          refine aw_iload_n dX6_readsNumber_9 0 rfl ?_
          refine aw_iaddN p (wdK k) dX6_readsNumber_10 rfl rfl ?_
          refine aw_aload_n dX6_readsNumber_11 1 rfl ?_
          refine aw_getI dX6_readsNumber_12 fl_X6_286 (hS.1.s 0 (by decide)) (hS.1.n 0 (by decide)) ?_
          refine aw_topE hS.2.2.1 ?_
          refine aw_icmp_leN (p + (wdK k)) L 28 dX6_readsNumber_15 (by decide) rfl rfl (by omega) (by omega) (fun c1 => ?_) (fun c1 => absurd (by omega) c1)
          refine aw_iload_n dX6_readsNumber_28 2 rfl ?_
          refine aw_bipush (v := 6) dX6_readsNumber_29 (by decide) ?_
          refine aw_icmp_geN k 6 84 dX6_readsNumber_31 (by decide) rfl rfl (by omega) (by omega) (fun c2 => absurd c2 (by omega)) (fun c2 => ?_)
          refine aw_aload_n dX6_readsNumber_34 1 rfl ?_
          refine aw_iload_n dX6_readsNumber_35 0 rfl ?_
          refine aw_iload_n dX6_readsNumber_36 2 rfl ?_
          refine aw_if_eq 49 dX6_readsNumber_37 (by decide) (fun c3 => absurd ((nI_z (by omega)).mp c3) k0) (fun c3 => ?_)
          refine aw_iload_n dX6_readsNumber_40 2 rfl ?_
          refine aw_iconst (v := 2) dX6_readsNumber_41 (by decide) ?_
          refine aw_icmp_eqN k 2 49 dX6_readsNumber_42 (by decide) rfl rfl (by omega) (by omega) (fun c4 => ?_) (fun c4 => absurd k2 c4)
          refine aw_iconst (v := 0) dX6_readsNumber_49 (by decide) ?_
          refine aw_callVl [.int (nI (wdK k)), .int 0] [] (sp_rw (d := d - 1) false hS hp (by omega) (by omega)) dX6_readsNumber_50 ml_X6_309 im_X6_readsWhole (hS.1.s 0 (by decide)) (hS.1.n 0 (by decide)) rfl rfl (dl1 (d := d) (by omega)) rfl rfl (Nat.le_of_ble_eq_true rfl) rfl rfl (Nat.zero_le _) (Nat.zero_le _) ?_
          refine aw_toplE er ?_
          refine aw_lstore_n [(3, .long (refI B k p)), (2, .int (nI (wdK k))), (0, .ref 0), (1, .int (nI k))] dX6_readsNumber_53 (Nat.le_of_ble_eq_true rfl) rfl ?_
          refine aw_iload_n dX6_readsNumber_54 3 rfl ?_
          refine aw_if_ne 72 dX6_readsNumber_55 (by decide) (fun c5 => ?_) (fun c5 => absurd ((nI_z (by omega)).mp c5) k0)
          refine aw_aload_n dX6_readsNumber_72 2 rfl ?_
          refine aw_dup dX6_readsNumber_73 rfl ?_
          refine aw_getI dX6_readsNumber_74 fl_X6_289 (hS.1.s 0 (by decide)) (hS.1.n 0 (by decide)) ?_
          refine aw_topE hp ?_
          refine aw_iload_n dX6_readsNumber_77 1 rfl ?_
          refine aw_iaddN p (wdK k) dX6_readsNumber_78 rfl rfl ?_
          refine aw_putI dX6_readsNumber_79 fl_X6_289 (Or.inl rfl) (hS.1.s 0 (by decide)) (hS.1.n 0 (by decide)) ?_
          refine aw_lload_n dX6_readsNumber_82 0 rfl ?_
          refine aw_lret dX6_readsNumber_83 rfl (Nat.zero_le _) (Nat.zero_le _) ?_
          exact ⟨rfl, rfl⟩
        · have er : folB B (wdK k) p (if true = true ∧ 127 < B p then -1 else 0) = refI B k p := by rw [sg_f, refI_s k0 k2]
          refine aw_iload_n dX6_readsNumber_0 1 rfl ?_
          refine aw_callSi [.int (nI k)] [] (sp_X6_width (d := d - 1) (by omega) (nI k) ) dX6_readsNumber_1 ml_X6_306 sm_X6_width rfl (dl1 (d := d) (by omega)) rfl rfl (Nat.le_of_ble_eq_true rfl) rfl rfl (Nat.zero_le _) (Nat.zero_le _) ?_
          refine aw_topE ((wd2 k hk).trans (congrArg nI ew)) ?_
          refine aw_istore_n [(2, .int (nI (wdK k))), (0, .ref 0), (1, .int (nI k))] dX6_readsNumber_4 (Nat.le_of_ble_eq_true rfl) rfl ?_
          refine aw_aload_n dX6_readsNumber_5 1 rfl ?_
          refine aw_getI dX6_readsNumber_6 fl_X6_289 (hS.1.s 0 (by decide)) (hS.1.n 0 (by decide)) ?_
          refine aw_topE hp ?_
          refine aw_iload_n dX6_readsNumber_9 0 rfl ?_
          refine aw_iaddN p (wdK k) dX6_readsNumber_10 rfl rfl ?_
          refine aw_aload_n dX6_readsNumber_11 1 rfl ?_
          refine aw_getI dX6_readsNumber_12 fl_X6_286 (hS.1.s 0 (by decide)) (hS.1.n 0 (by decide)) ?_
          refine aw_topE hS.2.2.1 ?_
          refine aw_icmp_leN (p + (wdK k)) L 28 dX6_readsNumber_15 (by decide) rfl rfl (by omega) (by omega) (fun c1 => ?_) (fun c1 => absurd (by omega) c1)
          refine aw_iload_n dX6_readsNumber_28 2 rfl ?_
          refine aw_bipush (v := 6) dX6_readsNumber_29 (by decide) ?_
          refine aw_icmp_geN k 6 84 dX6_readsNumber_31 (by decide) rfl rfl (by omega) (by omega) (fun c2 => absurd c2 (by omega)) (fun c2 => ?_)
          refine aw_aload_n dX6_readsNumber_34 1 rfl ?_
          refine aw_iload_n dX6_readsNumber_35 0 rfl ?_
          refine aw_iload_n dX6_readsNumber_36 2 rfl ?_
          refine aw_if_eq 49 dX6_readsNumber_37 (by decide) (fun c3 => absurd ((nI_z (by omega)).mp c3) k0) (fun c3 => ?_)
          refine aw_iload_n dX6_readsNumber_40 2 rfl ?_
          refine aw_iconst (v := 2) dX6_readsNumber_41 (by decide) ?_
          refine aw_icmp_eqN k 2 49 dX6_readsNumber_42 (by decide) rfl rfl (by omega) (by omega) (fun c4 => absurd c4 k2) (fun c4 => ?_)
          refine aw_iconst (v := 1) dX6_readsNumber_45 (by decide) ?_
          refine aw_goto 50 dX6_readsNumber_46 (by decide) ?_
          refine aw_callVl [.int (nI (wdK k)), .int 1] [] (sp_rw (d := d - 1) true hS hp (by omega) (by omega)) dX6_readsNumber_50 ml_X6_309 im_X6_readsWhole (hS.1.s 0 (by decide)) (hS.1.n 0 (by decide)) rfl rfl (dl1 (d := d) (by omega)) rfl rfl (Nat.le_of_ble_eq_true rfl) rfl rfl (Nat.zero_le _) (Nat.zero_le _) ?_
          refine aw_toplE er ?_
          refine aw_lstore_n [(3, .long (refI B k p)), (2, .int (nI (wdK k))), (0, .ref 0), (1, .int (nI k))] dX6_readsNumber_53 (Nat.le_of_ble_eq_true rfl) rfl ?_
          refine aw_iload_n dX6_readsNumber_54 3 rfl ?_
          refine aw_if_ne 72 dX6_readsNumber_55 (by decide) (fun c5 => ?_) (fun c5 => absurd ((nI_z (by omega)).mp c5) k0)
          refine aw_aload_n dX6_readsNumber_72 2 rfl ?_
          refine aw_dup dX6_readsNumber_73 rfl ?_
          refine aw_getI dX6_readsNumber_74 fl_X6_289 (hS.1.s 0 (by decide)) (hS.1.n 0 (by decide)) ?_
          refine aw_topE hp ?_
          refine aw_iload_n dX6_readsNumber_77 1 rfl ?_
          refine aw_iaddN p (wdK k) dX6_readsNumber_78 rfl rfl ?_
          refine aw_putI dX6_readsNumber_79 fl_X6_289 (Or.inl rfl) (hS.1.s 0 (by decide)) (hS.1.n 0 (by decide)) ?_
          refine aw_lload_n dX6_readsNumber_82 0 rfl ?_
          refine aw_lret dX6_readsNumber_83 rfl (Nat.zero_le _) (Nat.zero_le _) ?_
          exact ⟨rfl, rfl⟩
    · rw [if_neg cl]
      refine aw_iload_n dX6_readsNumber_0 1 rfl ?_
      refine aw_callSi [.int (nI k)] [] (sp_X6_width (d := d - 1) (by omega) (nI k) ) dX6_readsNumber_1 ml_X6_306 sm_X6_width rfl (dl1 (d := d) (by omega)) rfl rfl (Nat.le_of_ble_eq_true rfl) rfl rfl (Nat.zero_le _) (Nat.zero_le _) ?_
      refine aw_topE ((wd2 k hk).trans (congrArg nI ew)) ?_
      refine aw_istore_n [(2, .int (nI (wdK k))), (0, .ref 0), (1, .int (nI k))] dX6_readsNumber_4 (Nat.le_of_ble_eq_true rfl) rfl ?_
      refine aw_aload_n dX6_readsNumber_5 1 rfl ?_
      refine aw_getI dX6_readsNumber_6 fl_X6_289 (hS.1.s 0 (by decide)) (hS.1.n 0 (by decide)) ?_
      refine aw_topE hp ?_
      refine aw_iload_n dX6_readsNumber_9 0 rfl ?_
      refine aw_iaddN p (wdK k) dX6_readsNumber_10 rfl rfl ?_
      refine aw_aload_n dX6_readsNumber_11 1 rfl ?_
      refine aw_getI dX6_readsNumber_12 fl_X6_286 (hS.1.s 0 (by decide)) (hS.1.n 0 (by decide)) ?_
      refine aw_topE hS.2.2.1 ?_
      refine aw_icmp_leN (p + (wdK k)) L 28 dX6_readsNumber_15 (by decide) rfl rfl (by omega) (by omega) (fun c1 => absurd c1 (by omega)) (fun c1 => ?_)
      refine aw_aload_n dX6_readsNumber_18 1 rfl ?_
      refine aw_aload_n dX6_readsNumber_19 1 rfl ?_
      refine aw_getI dX6_readsNumber_20 fl_X6_289 (hS.1.s 0 (by decide)) (hS.1.n 0 (by decide)) ?_
      refine aw_topE hp ?_
      refine aw_callVv [.int (nI p)] [] (sp_fa (d := d - 1) (nI p) hS.1 hf0) dX6_readsNumber_23 ml_X6_295 im_X6_faults (hS.1.s 0 (by decide)) (hS.1.n 0 (by decide)) rfl rfl (dl1 (d := d) (by omega)) rfl rfl (Nat.le_of_ble_eq_true rfl) rfl rfl (Nat.zero_le _) (Nat.zero_le _) ?_
      refine aw_lconst (v := 0) dX6_readsNumber_26 (by decide) ?_
      refine aw_lret dX6_readsNumber_27 rfl (Nat.zero_le _) (Nat.zero_le _) ?_
      exact ⟨⟨_, rfl⟩, FE_f M p⟩
  · have ew : wid2 k = wdK k + 1 := if_neg c6
    rw [ew]
    by_cases cl : p + (wdK k + 1) ≤ L
    · rw [if_pos cl]
      have hb := (hS.2.2.2 p (by omega)).2
      have hk67 : k = 6 ∨ k = 7 := by omega
      have ev : numV B k p = (if sX1_isScaled (nI k) (sgB B (p + 1) (wdK k)) (nI (B p)) = true then some (sX0_scaledBits (nI k) (sgB B (p + 1) (wdK k)) (nI (B p))) else none) := if_neg c6
      have em : folB B (wdK k + 1 - 1) (p + 1) (if true = true ∧ 127 < B (p + 1) then -1 else 0) = sgB B (p + 1) (wdK k) := sg_f B (p + 1) (wdK k)
      rw [ev]
      obtain ⟨m, hm⟩ : ∃ m, m = sgB B (p + 1) (wdK k) := ⟨_, rfl⟩
      rw [← hm] at em ⊢
      cases hf : sX1_isScaled (nI k) m (nI (B p)) with
      | false =>
        rw [if_neg (by decide)]
        refine aw_iload_n dX6_readsNumber_0 1 rfl ?_
        refine aw_callSi [.int (nI k)] [] (sp_X6_width (d := d - 1) (by omega) (nI k) ) dX6_readsNumber_1 ml_X6_306 sm_X6_width rfl (dl1 (d := d) (by omega)) rfl rfl (Nat.le_of_ble_eq_true rfl) rfl rfl (Nat.zero_le _) (Nat.zero_le _) ?_
        refine aw_topE ((wd2 k hk).trans (congrArg nI ew)) ?_
        refine aw_istore_n [(2, .int (nI (wdK k + 1))), (0, .ref 0), (1, .int (nI k))] dX6_readsNumber_4 (Nat.le_of_ble_eq_true rfl) rfl ?_
        refine aw_aload_n dX6_readsNumber_5 1 rfl ?_
        refine aw_getI dX6_readsNumber_6 fl_X6_289 (hS.1.s 0 (by decide)) (hS.1.n 0 (by decide)) ?_
        refine aw_topE hp ?_
        refine aw_iload_n dX6_readsNumber_9 0 rfl ?_
        refine aw_iaddN p (wdK k + 1) dX6_readsNumber_10 rfl rfl ?_
        refine aw_aload_n dX6_readsNumber_11 1 rfl ?_
        refine aw_getI dX6_readsNumber_12 fl_X6_286 (hS.1.s 0 (by decide)) (hS.1.n 0 (by decide)) ?_
        refine aw_topE hS.2.2.1 ?_
        refine aw_icmp_leN (p + (wdK k + 1)) L 28 dX6_readsNumber_15 (by decide) rfl rfl (by omega) (by omega) (fun c1 => ?_) (fun c1 => absurd (by omega) c1)
        refine aw_iload_n dX6_readsNumber_28 2 rfl ?_
        refine aw_bipush (v := 6) dX6_readsNumber_29 (by decide) ?_
        refine aw_icmp_geN k 6 84 dX6_readsNumber_31 (by decide) rfl rfl (by omega) (by omega) (fun c2 => ?_) (fun c2 => absurd (by omega) c2)
        refine aw_aload_n dX6_readsNumber_84 1 rfl ?_
        refine aw_getR (b := 14) dX6_readsNumber_85 fl_X6_54 rfl (hS.1.s 0 (by decide)) (hS.1.n 0 (by decide)) (hS.1.r 22) ?_
        refine aw_aload_n dX6_readsNumber_88 1 rfl ?_
        refine aw_getI dX6_readsNumber_89 fl_X6_289 (hS.1.s 0 (by decide)) (hS.1.n 0 (by decide)) ?_
        refine aw_topE hp ?_
        refine aw_ialdN p dX6_readsNumber_92 (hS.1.s 14 (by decide)) (hS.1.n 14 (by decide)) rfl (by omega) (by first | decide | omega) ?_
        refine aw_topE (hS.2.2.2 p (by omega)).1 ?_
        refine aw_istore [(5, .int (nI (B p))), (2, .int (nI (wdK k + 1))), (0, .ref 0), (1, .int (nI k))] dX6_readsNumber_93 (Nat.le_of_ble_eq_true rfl) rfl ?_
        refine aw_aload_n dX6_readsNumber_95 2 rfl ?_
        refine aw_dup dX6_readsNumber_96 rfl ?_
        refine aw_getI dX6_readsNumber_97 fl_X6_289 (hS.1.s 0 (by decide)) (hS.1.n 0 (by decide)) ?_
        refine aw_topE hp ?_
        refine aw_iconst (v := 1) dX6_readsNumber_100 (by decide) ?_
        refine aw_iaddN p 1 dX6_readsNumber_101 rfl rfl ?_
        refine aw_putI dX6_readsNumber_102 fl_X6_289 (Or.inl rfl) (hS.1.s 0 (by decide)) (hS.1.n 0 (by decide)) ?_
        refine aw_aload_n dX6_readsNumber_105 2 rfl ?_
        refine aw_iload_n dX6_readsNumber_106 1 rfl ?_
        refine aw_iconst (v := 1) dX6_readsNumber_107 (by decide) ?_
        refine aw_isubN (wdK k + 1) 1 dX6_readsNumber_108 rfl rfl (by omega) ?_
        refine aw_iconst (v := 1) dX6_readsNumber_109 (by decide) ?_
        refine aw_callVl [.int (nI ((wdK k + 1) - 1)), .int 1] [] (sp_rw (d := d - 1) (n := wdK k + 1 - 1) true (hS.i 24 (nI (p + 1)) (by decide)) (mI_stI_v _ _ _ _) (by omega) (by omega)) dX6_readsNumber_110 ml_X6_309 im_X6_readsWhole ((hS.i 24 (nI (p + 1)) (by decide)).1.s 0 (by decide)) ((hS.i 24 (nI (p + 1)) (by decide)).1.n 0 (by decide)) rfl rfl (dl1 (d := d) (by omega)) rfl rfl (Nat.le_of_ble_eq_true rfl) rfl rfl (Nat.zero_le _) (Nat.zero_le _) ?_
        refine aw_toplE em ?_
        refine aw_lstore [(6, .long m), (5, .int (nI (B p))), (2, .int (nI (wdK k + 1))), (0, .ref 0), (1, .int (nI k))] dX6_readsNumber_113 (Nat.le_of_ble_eq_true rfl) rfl ?_
        refine aw_iload_n dX6_readsNumber_115 4 rfl ?_
        refine aw_iload dX6_readsNumber_116 1 rfl ?_
        refine aw_lload dX6_readsNumber_118 0 rfl ?_
        refine aw_callSi [.int (nI k), .int (nI (B p)), .long m] [] (sp_isF (d := d - 1) m hk67 hb) dX6_readsNumber_120 ml_X6_313 sm_X6_isFraction rfl (dl1 (d := d) (by omega)) rfl rfl (Nat.le_of_ble_eq_true rfl) rfl rfl (Nat.zero_le _) (Nat.zero_le _) ?_
        refine aw_if_ne 138 dX6_readsNumber_123 (by decide) (fun c3 => absurd (bz_0.mpr hf) c3) (fun c3 => ?_)
        refine aw_aload_n dX6_readsNumber_126 3 rfl ?_
        refine aw_aload_n dX6_readsNumber_127 3 rfl ?_
        refine aw_getI dX6_readsNumber_128 fl_X6_289 ((hS.i 24 (nI (p + 1)) (by decide)).1.s 0 (by decide)) ((hS.i 24 (nI (p + 1)) (by decide)).1.n 0 (by decide)) ?_
        refine aw_topE (mI_stI_v _ _ _ _) ?_
        refine aw_iconst (v := 1) dX6_readsNumber_131 (by decide) ?_
        refine aw_isubN (p + 1) 1 dX6_readsNumber_132 rfl rfl (by omega) ?_
        refine aw_callVv [.int (nI ((p + 1) - 1))] [] (sp_fa (d := d - 1) (nI ((p + 1) - 1)) (hS.i 24 (nI (p + 1)) (by decide)).1 ((mI_stI_o _ _ _ _ (by decide)).trans hf0)) dX6_readsNumber_133 ml_X6_295 im_X6_faults ((hS.i 24 (nI (p + 1)) (by decide)).1.s 0 (by decide)) ((hS.i 24 (nI (p + 1)) (by decide)).1.n 0 (by decide)) rfl rfl (dl1 (d := d) (by omega)) rfl rfl (Nat.le_of_ble_eq_true rfl) rfl rfl (Nat.zero_le _) (Nat.zero_le _) ?_
        refine aw_lconst (v := 0) dX6_readsNumber_136 (by decide) ?_
        refine aw_lret dX6_readsNumber_137 rfl (Nat.zero_le _) (Nat.zero_le _) ?_
        exact ⟨⟨_, rfl⟩, FE_a (FE_f _ p)⟩
      | true =>
        rw [if_pos rfl]
        have hmem : stI (stI M 0 24 (nI (p + 1))) 0 24 (nI (p + 1 + (wdK k + 1 - 1))) = stI M 0 24 (nI (p + (wdK k + 1))) := by
          rw [stI_2, show p + 1 + (wdK k + 1 - 1) = p + (wdK k + 1) by omega]
        rcases m_cases m with rfl | rfl | ⟨s, n, h0, hn, rfl⟩
        · rw [isS_0 hb] at hf
          have e0 : B p = 0 := of_decide_eq_true hf
          have hf2 : sX1_isScaled (nI k) 0 (nI (B p)) = true := by rw [isS_0 hb]; exact hf
          by_cases k6 : k = 6
          · skip
            refine aw_iload_n dX6_readsNumber_0 1 rfl ?_
            refine aw_callSi [.int (nI k)] [] (sp_X6_width (d := d - 1) (by omega) (nI k) ) dX6_readsNumber_1 ml_X6_306 sm_X6_width rfl (dl1 (d := d) (by omega)) rfl rfl (Nat.le_of_ble_eq_true rfl) rfl rfl (Nat.zero_le _) (Nat.zero_le _) ?_
            refine aw_topE ((wd2 k hk).trans (congrArg nI ew)) ?_
            refine aw_istore_n [(2, .int (nI (wdK k + 1))), (0, .ref 0), (1, .int (nI k))] dX6_readsNumber_4 (Nat.le_of_ble_eq_true rfl) rfl ?_
            refine aw_aload_n dX6_readsNumber_5 1 rfl ?_
            refine aw_getI dX6_readsNumber_6 fl_X6_289 (hS.1.s 0 (by decide)) (hS.1.n 0 (by decide)) ?_
            refine aw_topE hp ?_
            refine aw_iload_n dX6_readsNumber_9 0 rfl ?_
            refine aw_iaddN p (wdK k + 1) dX6_readsNumber_10 rfl rfl ?_
            refine aw_aload_n dX6_readsNumber_11 1 rfl ?_
            refine aw_getI dX6_readsNumber_12 fl_X6_286 (hS.1.s 0 (by decide)) (hS.1.n 0 (by decide)) ?_
            refine aw_topE hS.2.2.1 ?_
            refine aw_icmp_leN (p + (wdK k + 1)) L 28 dX6_readsNumber_15 (by decide) rfl rfl (by omega) (by omega) (fun c1 => ?_) (fun c1 => absurd (by omega) c1)
            refine aw_iload_n dX6_readsNumber_28 2 rfl ?_
            refine aw_bipush (v := 6) dX6_readsNumber_29 (by decide) ?_
            refine aw_icmp_geN k 6 84 dX6_readsNumber_31 (by decide) rfl rfl (by omega) (by omega) (fun c2 => ?_) (fun c2 => absurd (by omega) c2)
            refine aw_aload_n dX6_readsNumber_84 1 rfl ?_
            refine aw_getR (b := 14) dX6_readsNumber_85 fl_X6_54 rfl (hS.1.s 0 (by decide)) (hS.1.n 0 (by decide)) (hS.1.r 22) ?_
            refine aw_aload_n dX6_readsNumber_88 1 rfl ?_
            refine aw_getI dX6_readsNumber_89 fl_X6_289 (hS.1.s 0 (by decide)) (hS.1.n 0 (by decide)) ?_
            refine aw_topE hp ?_
            refine aw_ialdN p dX6_readsNumber_92 (hS.1.s 14 (by decide)) (hS.1.n 14 (by decide)) rfl (by omega) (by first | decide | omega) ?_
            refine aw_topE (hS.2.2.2 p (by omega)).1 ?_
            refine aw_istore [(5, .int (nI (B p))), (2, .int (nI (wdK k + 1))), (0, .ref 0), (1, .int (nI k))] dX6_readsNumber_93 (Nat.le_of_ble_eq_true rfl) rfl ?_
            refine aw_aload_n dX6_readsNumber_95 2 rfl ?_
            refine aw_dup dX6_readsNumber_96 rfl ?_
            refine aw_getI dX6_readsNumber_97 fl_X6_289 (hS.1.s 0 (by decide)) (hS.1.n 0 (by decide)) ?_
            refine aw_topE hp ?_
            refine aw_iconst (v := 1) dX6_readsNumber_100 (by decide) ?_
            refine aw_iaddN p 1 dX6_readsNumber_101 rfl rfl ?_
            refine aw_putI dX6_readsNumber_102 fl_X6_289 (Or.inl rfl) (hS.1.s 0 (by decide)) (hS.1.n 0 (by decide)) ?_
            refine aw_aload_n dX6_readsNumber_105 2 rfl ?_
            refine aw_iload_n dX6_readsNumber_106 1 rfl ?_
            refine aw_iconst (v := 1) dX6_readsNumber_107 (by decide) ?_
            refine aw_isubN (wdK k + 1) 1 dX6_readsNumber_108 rfl rfl (by omega) ?_
            refine aw_iconst (v := 1) dX6_readsNumber_109 (by decide) ?_
            refine aw_callVl [.int (nI ((wdK k + 1) - 1)), .int 1] [] (sp_rw (d := d - 1) (n := wdK k + 1 - 1) true (hS.i 24 (nI (p + 1)) (by decide)) (mI_stI_v _ _ _ _) (by omega) (by omega)) dX6_readsNumber_110 ml_X6_309 im_X6_readsWhole ((hS.i 24 (nI (p + 1)) (by decide)).1.s 0 (by decide)) ((hS.i 24 (nI (p + 1)) (by decide)).1.n 0 (by decide)) rfl rfl (dl1 (d := d) (by omega)) rfl rfl (Nat.le_of_ble_eq_true rfl) rfl rfl (Nat.zero_le _) (Nat.zero_le _) ?_
            refine aw_toplE em ?_
            refine aw_lstore [(6, .long 0), (5, .int (nI (B p))), (2, .int (nI (wdK k + 1))), (0, .ref 0), (1, .int (nI k))] dX6_readsNumber_113 (Nat.le_of_ble_eq_true rfl) rfl ?_
            refine aw_iload_n dX6_readsNumber_115 4 rfl ?_
            refine aw_iload dX6_readsNumber_116 1 rfl ?_
            refine aw_lload dX6_readsNumber_118 0 rfl ?_
            refine aw_callSi [.int (nI k), .int (nI (B p)), .long 0] [] (sp_isF (d := d - 1) 0 hk67 hb) dX6_readsNumber_120 ml_X6_313 sm_X6_isFraction rfl (dl1 (d := d) (by omega)) rfl rfl (Nat.le_of_ble_eq_true rfl) rfl rfl (Nat.zero_le _) (Nat.zero_le _) ?_
            refine aw_if_ne 138 dX6_readsNumber_123 (by decide) (fun c3 => ?_) (fun c3 => absurd c3 (bz_n0.mpr hf2))
            refine aw_aload_n dX6_readsNumber_138 3 rfl ?_
            refine aw_dup dX6_readsNumber_139 rfl ?_
            refine aw_getI dX6_readsNumber_140 fl_X6_289 ((hS.i 24 (nI (p + 1)) (by decide)).1.s 0 (by decide)) ((hS.i 24 (nI (p + 1)) (by decide)).1.n 0 (by decide)) ?_
            refine aw_topE (mI_stI_v _ _ _ _) ?_
            refine aw_iload_n dX6_readsNumber_143 2 rfl ?_
            refine aw_iconst (v := 1) dX6_readsNumber_144 (by decide) ?_
            refine aw_isubN (wdK k + 1) 1 dX6_readsNumber_145 rfl rfl (by omega) ?_
            refine aw_iaddN (p + 1) ((wdK k + 1) - 1) dX6_readsNumber_146 rfl rfl ?_
            refine aw_putI dX6_readsNumber_147 fl_X6_289 (Or.inl rfl) ((hS.i 24 (nI (p + 1)) (by decide)).1.s 0 (by decide)) ((hS.i 24 (nI (p + 1)) (by decide)).1.n 0 (by decide)) ?_
            refine aw_lload dX6_readsNumber_150 0 rfl ?_
            refine aw_l2d dX6_readsNumber_152 ?_
            refine aw_topdE l2d_0 ?_
            refine aw_ldc2d dX6_readsNumber_153 kc_X6_110 ?_
            refine aw_dmul dX6_readsNumber_156 (n64e m0_e n64_0) ?_
            refine aw_topdE m0_e ?_
            refine aw_dstore [(8, .double FP.dconst0), (6, .long 0), (5, .int (nI (B p))), (2, .int (nI (wdK k + 1))), (0, .ref 0), (1, .int (nI k))] dX6_readsNumber_157 (Nat.le_of_ble_eq_true rfl) rfl ?_
            refine aw_iconst (v := 0) dX6_readsNumber_159 (by decide) ?_
            refine aw_istore [(10, .int 0), (8, .double FP.dconst0), (6, .long 0), (5, .int (nI (B p))), (2, .int (nI (wdK k + 1))), (0, .ref 0), (1, .int (nI k))] dX6_readsNumber_160 (Nat.le_of_ble_eq_true rfl) rfl ?_
            refine aw_iload dX6_readsNumber_162 0 rfl ?_
            refine aw_iload dX6_readsNumber_164 3 rfl ?_
            refine aw_icmp_geN 0 (B p) 183 dX6_readsNumber_166 (by decide) rfl rfl (by omega) (by omega) (fun c4 => ?_) (fun c4 => absurd (by omega) c4)
            refine aw_iload_n dX6_readsNumber_183 6 rfl ?_
            refine aw_bipush (v := 6) dX6_readsNumber_184 (by decide) ?_
            refine aw_icmp_neN k 6 197 dX6_readsNumber_186 (by decide) rfl rfl (by omega) (by omega) (fun c5 => absurd k6 c5) (fun c5 => ?_)
            refine aw_dload dX6_readsNumber_189 1 rfl ?_
            refine aw_callSl [.double FP.dconst0] [] (sp_X6_floatBits (d := d - 1) (by omega) FP.dconst0 (Or.inl rfl)) dX6_readsNumber_191 ml_X6_106 sm_X6_floatBits rfl (dl1 (d := d) (by omega)) rfl rfl (Nat.le_of_ble_eq_true rfl) rfl rfl (Nat.zero_le _) (Nat.zero_le _) ?_
            refine aw_goto 202 dX6_readsNumber_194 (by decide) ?_
            refine aw_lret dX6_readsNumber_202 rfl (Nat.zero_le _) (Nat.zero_le _) ?_
            exact ⟨congrArg (fun z => some (Value.long z)) ((fb_0 6).trans (sc_0 k (nI (B p))).symm), hmem⟩
          · skip
            refine aw_iload_n dX6_readsNumber_0 1 rfl ?_
            refine aw_callSi [.int (nI k)] [] (sp_X6_width (d := d - 1) (by omega) (nI k) ) dX6_readsNumber_1 ml_X6_306 sm_X6_width rfl (dl1 (d := d) (by omega)) rfl rfl (Nat.le_of_ble_eq_true rfl) rfl rfl (Nat.zero_le _) (Nat.zero_le _) ?_
            refine aw_topE ((wd2 k hk).trans (congrArg nI ew)) ?_
            refine aw_istore_n [(2, .int (nI (wdK k + 1))), (0, .ref 0), (1, .int (nI k))] dX6_readsNumber_4 (Nat.le_of_ble_eq_true rfl) rfl ?_
            refine aw_aload_n dX6_readsNumber_5 1 rfl ?_
            refine aw_getI dX6_readsNumber_6 fl_X6_289 (hS.1.s 0 (by decide)) (hS.1.n 0 (by decide)) ?_
            refine aw_topE hp ?_
            refine aw_iload_n dX6_readsNumber_9 0 rfl ?_
            refine aw_iaddN p (wdK k + 1) dX6_readsNumber_10 rfl rfl ?_
            refine aw_aload_n dX6_readsNumber_11 1 rfl ?_
            refine aw_getI dX6_readsNumber_12 fl_X6_286 (hS.1.s 0 (by decide)) (hS.1.n 0 (by decide)) ?_
            refine aw_topE hS.2.2.1 ?_
            refine aw_icmp_leN (p + (wdK k + 1)) L 28 dX6_readsNumber_15 (by decide) rfl rfl (by omega) (by omega) (fun c1 => ?_) (fun c1 => absurd (by omega) c1)
            refine aw_iload_n dX6_readsNumber_28 2 rfl ?_
            refine aw_bipush (v := 6) dX6_readsNumber_29 (by decide) ?_
            refine aw_icmp_geN k 6 84 dX6_readsNumber_31 (by decide) rfl rfl (by omega) (by omega) (fun c2 => ?_) (fun c2 => absurd (by omega) c2)
            refine aw_aload_n dX6_readsNumber_84 1 rfl ?_
            refine aw_getR (b := 14) dX6_readsNumber_85 fl_X6_54 rfl (hS.1.s 0 (by decide)) (hS.1.n 0 (by decide)) (hS.1.r 22) ?_
            refine aw_aload_n dX6_readsNumber_88 1 rfl ?_
            refine aw_getI dX6_readsNumber_89 fl_X6_289 (hS.1.s 0 (by decide)) (hS.1.n 0 (by decide)) ?_
            refine aw_topE hp ?_
            refine aw_ialdN p dX6_readsNumber_92 (hS.1.s 14 (by decide)) (hS.1.n 14 (by decide)) rfl (by omega) (by first | decide | omega) ?_
            refine aw_topE (hS.2.2.2 p (by omega)).1 ?_
            refine aw_istore [(5, .int (nI (B p))), (2, .int (nI (wdK k + 1))), (0, .ref 0), (1, .int (nI k))] dX6_readsNumber_93 (Nat.le_of_ble_eq_true rfl) rfl ?_
            refine aw_aload_n dX6_readsNumber_95 2 rfl ?_
            refine aw_dup dX6_readsNumber_96 rfl ?_
            refine aw_getI dX6_readsNumber_97 fl_X6_289 (hS.1.s 0 (by decide)) (hS.1.n 0 (by decide)) ?_
            refine aw_topE hp ?_
            refine aw_iconst (v := 1) dX6_readsNumber_100 (by decide) ?_
            refine aw_iaddN p 1 dX6_readsNumber_101 rfl rfl ?_
            refine aw_putI dX6_readsNumber_102 fl_X6_289 (Or.inl rfl) (hS.1.s 0 (by decide)) (hS.1.n 0 (by decide)) ?_
            refine aw_aload_n dX6_readsNumber_105 2 rfl ?_
            refine aw_iload_n dX6_readsNumber_106 1 rfl ?_
            refine aw_iconst (v := 1) dX6_readsNumber_107 (by decide) ?_
            refine aw_isubN (wdK k + 1) 1 dX6_readsNumber_108 rfl rfl (by omega) ?_
            refine aw_iconst (v := 1) dX6_readsNumber_109 (by decide) ?_
            refine aw_callVl [.int (nI ((wdK k + 1) - 1)), .int 1] [] (sp_rw (d := d - 1) (n := wdK k + 1 - 1) true (hS.i 24 (nI (p + 1)) (by decide)) (mI_stI_v _ _ _ _) (by omega) (by omega)) dX6_readsNumber_110 ml_X6_309 im_X6_readsWhole ((hS.i 24 (nI (p + 1)) (by decide)).1.s 0 (by decide)) ((hS.i 24 (nI (p + 1)) (by decide)).1.n 0 (by decide)) rfl rfl (dl1 (d := d) (by omega)) rfl rfl (Nat.le_of_ble_eq_true rfl) rfl rfl (Nat.zero_le _) (Nat.zero_le _) ?_
            refine aw_toplE em ?_
            refine aw_lstore [(6, .long 0), (5, .int (nI (B p))), (2, .int (nI (wdK k + 1))), (0, .ref 0), (1, .int (nI k))] dX6_readsNumber_113 (Nat.le_of_ble_eq_true rfl) rfl ?_
            refine aw_iload_n dX6_readsNumber_115 4 rfl ?_
            refine aw_iload dX6_readsNumber_116 1 rfl ?_
            refine aw_lload dX6_readsNumber_118 0 rfl ?_
            refine aw_callSi [.int (nI k), .int (nI (B p)), .long 0] [] (sp_isF (d := d - 1) 0 hk67 hb) dX6_readsNumber_120 ml_X6_313 sm_X6_isFraction rfl (dl1 (d := d) (by omega)) rfl rfl (Nat.le_of_ble_eq_true rfl) rfl rfl (Nat.zero_le _) (Nat.zero_le _) ?_
            refine aw_if_ne 138 dX6_readsNumber_123 (by decide) (fun c3 => ?_) (fun c3 => absurd c3 (bz_n0.mpr hf2))
            refine aw_aload_n dX6_readsNumber_138 3 rfl ?_
            refine aw_dup dX6_readsNumber_139 rfl ?_
            refine aw_getI dX6_readsNumber_140 fl_X6_289 ((hS.i 24 (nI (p + 1)) (by decide)).1.s 0 (by decide)) ((hS.i 24 (nI (p + 1)) (by decide)).1.n 0 (by decide)) ?_
            refine aw_topE (mI_stI_v _ _ _ _) ?_
            refine aw_iload_n dX6_readsNumber_143 2 rfl ?_
            refine aw_iconst (v := 1) dX6_readsNumber_144 (by decide) ?_
            refine aw_isubN (wdK k + 1) 1 dX6_readsNumber_145 rfl rfl (by omega) ?_
            refine aw_iaddN (p + 1) ((wdK k + 1) - 1) dX6_readsNumber_146 rfl rfl ?_
            refine aw_putI dX6_readsNumber_147 fl_X6_289 (Or.inl rfl) ((hS.i 24 (nI (p + 1)) (by decide)).1.s 0 (by decide)) ((hS.i 24 (nI (p + 1)) (by decide)).1.n 0 (by decide)) ?_
            refine aw_lload dX6_readsNumber_150 0 rfl ?_
            refine aw_l2d dX6_readsNumber_152 ?_
            refine aw_topdE l2d_0 ?_
            refine aw_ldc2d dX6_readsNumber_153 kc_X6_110 ?_
            refine aw_dmul dX6_readsNumber_156 (n64e m0_e n64_0) ?_
            refine aw_topdE m0_e ?_
            refine aw_dstore [(8, .double FP.dconst0), (6, .long 0), (5, .int (nI (B p))), (2, .int (nI (wdK k + 1))), (0, .ref 0), (1, .int (nI k))] dX6_readsNumber_157 (Nat.le_of_ble_eq_true rfl) rfl ?_
            refine aw_iconst (v := 0) dX6_readsNumber_159 (by decide) ?_
            refine aw_istore [(10, .int 0), (8, .double FP.dconst0), (6, .long 0), (5, .int (nI (B p))), (2, .int (nI (wdK k + 1))), (0, .ref 0), (1, .int (nI k))] dX6_readsNumber_160 (Nat.le_of_ble_eq_true rfl) rfl ?_
            refine aw_iload dX6_readsNumber_162 0 rfl ?_
            refine aw_iload dX6_readsNumber_164 3 rfl ?_
            refine aw_icmp_geN 0 (B p) 183 dX6_readsNumber_166 (by decide) rfl rfl (by omega) (by omega) (fun c4 => ?_) (fun c4 => absurd (by omega) c4)
            refine aw_iload_n dX6_readsNumber_183 6 rfl ?_
            refine aw_bipush (v := 6) dX6_readsNumber_184 (by decide) ?_
            refine aw_icmp_neN k 6 197 dX6_readsNumber_186 (by decide) rfl rfl (by omega) (by omega) (fun c5 => ?_) (fun c5 => absurd c5 (by omega))
            refine aw_dload dX6_readsNumber_197 1 rfl ?_
            refine aw_callSl [.double FP.dconst0] [] (sp_X6_doubleBits (d := d - 1) (by omega) FP.dconst0 (Or.inl rfl)) dX6_readsNumber_199 ml_X6_112 sm_X6_doubleBits rfl (dl1 (d := d) (by omega)) rfl rfl (Nat.le_of_ble_eq_true rfl) rfl rfl (Nat.zero_le _) (Nat.zero_le _) ?_
            refine aw_lret dX6_readsNumber_202 rfl (Nat.zero_le _) (Nat.zero_le _) ?_
            exact ⟨congrArg (fun z => some (Value.long z)) ((fb_0 7).trans (sc_0 k (nI (B p))).symm), hmem⟩
        · rw [isS_m] at hf; cases hf
        · have hf2 := hf
          rw [isS_eq hk67 s h0 hn hb] at hf
          obtain ⟨-, d1, d2, d3, d4, d5⟩ := sc_D hk67 hf
          obtain ⟨l1, l2⟩ := l2d_ex s h0 d1
          have hsf := sc_fb hk67 s hf
          obtain ⟨c, ec⟩ : ∃ c, c = n * 2 ^ (52 - n.log2) := ⟨_, rfl⟩
          rw [← ec] at l1 l2 d4 d5 hsf
          have hl : n.log2 < 53 := (Nat.log2_lt (by omega)).mpr d1
          have nr : nrm c ((n.log2 : Int) - 52 + (-3)) := nrmw _ l2 (by omega) (by omega)
          by_cases k6 : k = 6
          · skip
            refine aw_iload_n dX6_readsNumber_0 1 rfl ?_
            refine aw_callSi [.int (nI k)] [] (sp_X6_width (d := d - 1) (by omega) (nI k) ) dX6_readsNumber_1 ml_X6_306 sm_X6_width rfl (dl1 (d := d) (by omega)) rfl rfl (Nat.le_of_ble_eq_true rfl) rfl rfl (Nat.zero_le _) (Nat.zero_le _) ?_
            refine aw_topE ((wd2 k hk).trans (congrArg nI ew)) ?_
            refine aw_istore_n [(2, .int (nI (wdK k + 1))), (0, .ref 0), (1, .int (nI k))] dX6_readsNumber_4 (Nat.le_of_ble_eq_true rfl) rfl ?_
            refine aw_aload_n dX6_readsNumber_5 1 rfl ?_
            refine aw_getI dX6_readsNumber_6 fl_X6_289 (hS.1.s 0 (by decide)) (hS.1.n 0 (by decide)) ?_
            refine aw_topE hp ?_
            refine aw_iload_n dX6_readsNumber_9 0 rfl ?_
            refine aw_iaddN p (wdK k + 1) dX6_readsNumber_10 rfl rfl ?_
            refine aw_aload_n dX6_readsNumber_11 1 rfl ?_
            refine aw_getI dX6_readsNumber_12 fl_X6_286 (hS.1.s 0 (by decide)) (hS.1.n 0 (by decide)) ?_
            refine aw_topE hS.2.2.1 ?_
            refine aw_icmp_leN (p + (wdK k + 1)) L 28 dX6_readsNumber_15 (by decide) rfl rfl (by omega) (by omega) (fun c1 => ?_) (fun c1 => absurd (by omega) c1)
            refine aw_iload_n dX6_readsNumber_28 2 rfl ?_
            refine aw_bipush (v := 6) dX6_readsNumber_29 (by decide) ?_
            refine aw_icmp_geN k 6 84 dX6_readsNumber_31 (by decide) rfl rfl (by omega) (by omega) (fun c2 => ?_) (fun c2 => absurd (by omega) c2)
            refine aw_aload_n dX6_readsNumber_84 1 rfl ?_
            refine aw_getR (b := 14) dX6_readsNumber_85 fl_X6_54 rfl (hS.1.s 0 (by decide)) (hS.1.n 0 (by decide)) (hS.1.r 22) ?_
            refine aw_aload_n dX6_readsNumber_88 1 rfl ?_
            refine aw_getI dX6_readsNumber_89 fl_X6_289 (hS.1.s 0 (by decide)) (hS.1.n 0 (by decide)) ?_
            refine aw_topE hp ?_
            refine aw_ialdN p dX6_readsNumber_92 (hS.1.s 14 (by decide)) (hS.1.n 14 (by decide)) rfl (by omega) (by first | decide | omega) ?_
            refine aw_topE (hS.2.2.2 p (by omega)).1 ?_
            refine aw_istore [(5, .int (nI (B p))), (2, .int (nI (wdK k + 1))), (0, .ref 0), (1, .int (nI k))] dX6_readsNumber_93 (Nat.le_of_ble_eq_true rfl) rfl ?_
            refine aw_aload_n dX6_readsNumber_95 2 rfl ?_
            refine aw_dup dX6_readsNumber_96 rfl ?_
            refine aw_getI dX6_readsNumber_97 fl_X6_289 (hS.1.s 0 (by decide)) (hS.1.n 0 (by decide)) ?_
            refine aw_topE hp ?_
            refine aw_iconst (v := 1) dX6_readsNumber_100 (by decide) ?_
            refine aw_iaddN p 1 dX6_readsNumber_101 rfl rfl ?_
            refine aw_putI dX6_readsNumber_102 fl_X6_289 (Or.inl rfl) (hS.1.s 0 (by decide)) (hS.1.n 0 (by decide)) ?_
            refine aw_aload_n dX6_readsNumber_105 2 rfl ?_
            refine aw_iload_n dX6_readsNumber_106 1 rfl ?_
            refine aw_iconst (v := 1) dX6_readsNumber_107 (by decide) ?_
            refine aw_isubN (wdK k + 1) 1 dX6_readsNumber_108 rfl rfl (by omega) ?_
            refine aw_iconst (v := 1) dX6_readsNumber_109 (by decide) ?_
            refine aw_callVl [.int (nI ((wdK k + 1) - 1)), .int 1] [] (sp_rw (d := d - 1) (n := wdK k + 1 - 1) true (hS.i 24 (nI (p + 1)) (by decide)) (mI_stI_v _ _ _ _) (by omega) (by omega)) dX6_readsNumber_110 ml_X6_309 im_X6_readsWhole ((hS.i 24 (nI (p + 1)) (by decide)).1.s 0 (by decide)) ((hS.i 24 (nI (p + 1)) (by decide)).1.n 0 (by decide)) rfl rfl (dl1 (d := d) (by omega)) rfl rfl (Nat.le_of_ble_eq_true rfl) rfl rfl (Nat.zero_le _) (Nat.zero_le _) ?_
            refine aw_toplE em ?_
            refine aw_lstore [(6, .long (Int64.ofInt (FP.Core.signed s n))), (5, .int (nI (B p))), (2, .int (nI (wdK k + 1))), (0, .ref 0), (1, .int (nI k))] dX6_readsNumber_113 (Nat.le_of_ble_eq_true rfl) rfl ?_
            refine aw_iload_n dX6_readsNumber_115 4 rfl ?_
            refine aw_iload dX6_readsNumber_116 1 rfl ?_
            refine aw_lload dX6_readsNumber_118 0 rfl ?_
            refine aw_callSi [.int (nI k), .int (nI (B p)), .long (Int64.ofInt (FP.Core.signed s n))] [] (sp_isF (d := d - 1) (Int64.ofInt (FP.Core.signed s n)) hk67 hb) dX6_readsNumber_120 ml_X6_313 sm_X6_isFraction rfl (dl1 (d := d) (by omega)) rfl rfl (Nat.le_of_ble_eq_true rfl) rfl rfl (Nat.zero_le _) (Nat.zero_le _) ?_
            refine aw_if_ne 138 dX6_readsNumber_123 (by decide) (fun c3 => ?_) (fun c3 => absurd c3 (bz_n0.mpr hf2))
            refine aw_aload_n dX6_readsNumber_138 3 rfl ?_
            refine aw_dup dX6_readsNumber_139 rfl ?_
            refine aw_getI dX6_readsNumber_140 fl_X6_289 ((hS.i 24 (nI (p + 1)) (by decide)).1.s 0 (by decide)) ((hS.i 24 (nI (p + 1)) (by decide)).1.n 0 (by decide)) ?_
            refine aw_topE (mI_stI_v _ _ _ _) ?_
            refine aw_iload_n dX6_readsNumber_143 2 rfl ?_
            refine aw_iconst (v := 1) dX6_readsNumber_144 (by decide) ?_
            refine aw_isubN (wdK k + 1) 1 dX6_readsNumber_145 rfl rfl (by omega) ?_
            refine aw_iaddN (p + 1) ((wdK k + 1) - 1) dX6_readsNumber_146 rfl rfl ?_
            refine aw_putI dX6_readsNumber_147 fl_X6_289 (Or.inl rfl) ((hS.i 24 (nI (p + 1)) (by decide)).1.s 0 (by decide)) ((hS.i 24 (nI (p + 1)) (by decide)).1.n 0 (by decide)) ?_
            refine aw_lload dX6_readsNumber_150 0 rfl ?_
            refine aw_l2d dX6_readsNumber_152 ?_
            refine aw_topdE l1 ?_
            refine aw_ldc2d dX6_readsNumber_153 kc_X6_110 ?_
            refine aw_dmul dX6_readsNumber_156 (n64e (dmul_p (-3) l2 nr ke) (nr.n s)) ?_
            refine aw_topdE (dmul_p (-3) l2 nr ke) ?_
            refine aw_dstore [(8, .double (nd s c ((n.log2 : Int) - 52 + (-3)))), (6, .long (Int64.ofInt (FP.Core.signed s n))), (5, .int (nI (B p))), (2, .int (nI (wdK k + 1))), (0, .ref 0), (1, .int (nI k))] dX6_readsNumber_157 (Nat.le_of_ble_eq_true rfl) rfl ?_
            refine aw_iconst (v := 0) dX6_readsNumber_159 (by decide) ?_
            refine aw_istore [(10, .int 0), (8, .double (nd s c ((n.log2 : Int) - 52 + (-3)))), (6, .long (Int64.ofInt (FP.Core.signed s n))), (5, .int (nI (B p))), (2, .int (nI (wdK k + 1))), (0, .ref 0), (1, .int (nI k))] dX6_readsNumber_160 (Nat.le_of_ble_eq_true rfl) rfl ?_
            refine lp_rnD s c nr hb (B p) 0 _ (by omega) (by omega) (by omega) ?_
            rw [show (n.log2 : Int) - 52 + (-3) + ((B p : Nat) : Int) = (n.log2 : Int) - 55 + (B p : Nat) by omega]
            refine aw_iload_n dX6_readsNumber_183 6 rfl ?_
            refine aw_bipush (v := 6) dX6_readsNumber_184 (by decide) ?_
            refine aw_icmp_neN k 6 197 dX6_readsNumber_186 (by decide) rfl rfl (by omega) (by omega) (fun c1 => absurd k6 c1) (fun c1 => ?_)
            refine aw_dload dX6_readsNumber_189 1 rfl ?_
            refine aw_callSl [.double (nd s c ((n.log2 : Int) - 55 + (B p : Nat)))] [] (sp_X6_floatBits (d := d - 1) (by omega) (nd s c ((n.log2 : Int) - 55 + (B p : Nat))) (Or.inr ⟨s, c, _, (by have q := d4; rw [show k = 6 by omega] at q; exact q), rfl⟩)) dX6_readsNumber_191 ml_X6_106 sm_X6_floatBits rfl (dl1 (d := d) (by omega)) rfl rfl (Nat.le_of_ble_eq_true rfl) rfl rfl (Nat.zero_le _) (Nat.zero_le _) ?_
            refine aw_goto 202 dX6_readsNumber_194 (by decide) ?_
            refine aw_lret dX6_readsNumber_202 rfl (Nat.zero_le _) (Nat.zero_le _) ?_
            refine ⟨congrArg (fun z => some (Value.long z)) ?_, hmem⟩
            rw [hsf, show k = 6 by omega]
          · skip
            refine aw_iload_n dX6_readsNumber_0 1 rfl ?_
            refine aw_callSi [.int (nI k)] [] (sp_X6_width (d := d - 1) (by omega) (nI k) ) dX6_readsNumber_1 ml_X6_306 sm_X6_width rfl (dl1 (d := d) (by omega)) rfl rfl (Nat.le_of_ble_eq_true rfl) rfl rfl (Nat.zero_le _) (Nat.zero_le _) ?_
            refine aw_topE ((wd2 k hk).trans (congrArg nI ew)) ?_
            refine aw_istore_n [(2, .int (nI (wdK k + 1))), (0, .ref 0), (1, .int (nI k))] dX6_readsNumber_4 (Nat.le_of_ble_eq_true rfl) rfl ?_
            refine aw_aload_n dX6_readsNumber_5 1 rfl ?_
            refine aw_getI dX6_readsNumber_6 fl_X6_289 (hS.1.s 0 (by decide)) (hS.1.n 0 (by decide)) ?_
            refine aw_topE hp ?_
            refine aw_iload_n dX6_readsNumber_9 0 rfl ?_
            refine aw_iaddN p (wdK k + 1) dX6_readsNumber_10 rfl rfl ?_
            refine aw_aload_n dX6_readsNumber_11 1 rfl ?_
            refine aw_getI dX6_readsNumber_12 fl_X6_286 (hS.1.s 0 (by decide)) (hS.1.n 0 (by decide)) ?_
            refine aw_topE hS.2.2.1 ?_
            refine aw_icmp_leN (p + (wdK k + 1)) L 28 dX6_readsNumber_15 (by decide) rfl rfl (by omega) (by omega) (fun c1 => ?_) (fun c1 => absurd (by omega) c1)
            refine aw_iload_n dX6_readsNumber_28 2 rfl ?_
            refine aw_bipush (v := 6) dX6_readsNumber_29 (by decide) ?_
            refine aw_icmp_geN k 6 84 dX6_readsNumber_31 (by decide) rfl rfl (by omega) (by omega) (fun c2 => ?_) (fun c2 => absurd (by omega) c2)
            refine aw_aload_n dX6_readsNumber_84 1 rfl ?_
            refine aw_getR (b := 14) dX6_readsNumber_85 fl_X6_54 rfl (hS.1.s 0 (by decide)) (hS.1.n 0 (by decide)) (hS.1.r 22) ?_
            refine aw_aload_n dX6_readsNumber_88 1 rfl ?_
            refine aw_getI dX6_readsNumber_89 fl_X6_289 (hS.1.s 0 (by decide)) (hS.1.n 0 (by decide)) ?_
            refine aw_topE hp ?_
            refine aw_ialdN p dX6_readsNumber_92 (hS.1.s 14 (by decide)) (hS.1.n 14 (by decide)) rfl (by omega) (by first | decide | omega) ?_
            refine aw_topE (hS.2.2.2 p (by omega)).1 ?_
            refine aw_istore [(5, .int (nI (B p))), (2, .int (nI (wdK k + 1))), (0, .ref 0), (1, .int (nI k))] dX6_readsNumber_93 (Nat.le_of_ble_eq_true rfl) rfl ?_
            refine aw_aload_n dX6_readsNumber_95 2 rfl ?_
            refine aw_dup dX6_readsNumber_96 rfl ?_
            refine aw_getI dX6_readsNumber_97 fl_X6_289 (hS.1.s 0 (by decide)) (hS.1.n 0 (by decide)) ?_
            refine aw_topE hp ?_
            refine aw_iconst (v := 1) dX6_readsNumber_100 (by decide) ?_
            refine aw_iaddN p 1 dX6_readsNumber_101 rfl rfl ?_
            refine aw_putI dX6_readsNumber_102 fl_X6_289 (Or.inl rfl) (hS.1.s 0 (by decide)) (hS.1.n 0 (by decide)) ?_
            refine aw_aload_n dX6_readsNumber_105 2 rfl ?_
            refine aw_iload_n dX6_readsNumber_106 1 rfl ?_
            refine aw_iconst (v := 1) dX6_readsNumber_107 (by decide) ?_
            refine aw_isubN (wdK k + 1) 1 dX6_readsNumber_108 rfl rfl (by omega) ?_
            refine aw_iconst (v := 1) dX6_readsNumber_109 (by decide) ?_
            refine aw_callVl [.int (nI ((wdK k + 1) - 1)), .int 1] [] (sp_rw (d := d - 1) (n := wdK k + 1 - 1) true (hS.i 24 (nI (p + 1)) (by decide)) (mI_stI_v _ _ _ _) (by omega) (by omega)) dX6_readsNumber_110 ml_X6_309 im_X6_readsWhole ((hS.i 24 (nI (p + 1)) (by decide)).1.s 0 (by decide)) ((hS.i 24 (nI (p + 1)) (by decide)).1.n 0 (by decide)) rfl rfl (dl1 (d := d) (by omega)) rfl rfl (Nat.le_of_ble_eq_true rfl) rfl rfl (Nat.zero_le _) (Nat.zero_le _) ?_
            refine aw_toplE em ?_
            refine aw_lstore [(6, .long (Int64.ofInt (FP.Core.signed s n))), (5, .int (nI (B p))), (2, .int (nI (wdK k + 1))), (0, .ref 0), (1, .int (nI k))] dX6_readsNumber_113 (Nat.le_of_ble_eq_true rfl) rfl ?_
            refine aw_iload_n dX6_readsNumber_115 4 rfl ?_
            refine aw_iload dX6_readsNumber_116 1 rfl ?_
            refine aw_lload dX6_readsNumber_118 0 rfl ?_
            refine aw_callSi [.int (nI k), .int (nI (B p)), .long (Int64.ofInt (FP.Core.signed s n))] [] (sp_isF (d := d - 1) (Int64.ofInt (FP.Core.signed s n)) hk67 hb) dX6_readsNumber_120 ml_X6_313 sm_X6_isFraction rfl (dl1 (d := d) (by omega)) rfl rfl (Nat.le_of_ble_eq_true rfl) rfl rfl (Nat.zero_le _) (Nat.zero_le _) ?_
            refine aw_if_ne 138 dX6_readsNumber_123 (by decide) (fun c3 => ?_) (fun c3 => absurd c3 (bz_n0.mpr hf2))
            refine aw_aload_n dX6_readsNumber_138 3 rfl ?_
            refine aw_dup dX6_readsNumber_139 rfl ?_
            refine aw_getI dX6_readsNumber_140 fl_X6_289 ((hS.i 24 (nI (p + 1)) (by decide)).1.s 0 (by decide)) ((hS.i 24 (nI (p + 1)) (by decide)).1.n 0 (by decide)) ?_
            refine aw_topE (mI_stI_v _ _ _ _) ?_
            refine aw_iload_n dX6_readsNumber_143 2 rfl ?_
            refine aw_iconst (v := 1) dX6_readsNumber_144 (by decide) ?_
            refine aw_isubN (wdK k + 1) 1 dX6_readsNumber_145 rfl rfl (by omega) ?_
            refine aw_iaddN (p + 1) ((wdK k + 1) - 1) dX6_readsNumber_146 rfl rfl ?_
            refine aw_putI dX6_readsNumber_147 fl_X6_289 (Or.inl rfl) ((hS.i 24 (nI (p + 1)) (by decide)).1.s 0 (by decide)) ((hS.i 24 (nI (p + 1)) (by decide)).1.n 0 (by decide)) ?_
            refine aw_lload dX6_readsNumber_150 0 rfl ?_
            refine aw_l2d dX6_readsNumber_152 ?_
            refine aw_topdE l1 ?_
            refine aw_ldc2d dX6_readsNumber_153 kc_X6_110 ?_
            refine aw_dmul dX6_readsNumber_156 (n64e (dmul_p (-3) l2 nr ke) (nr.n s)) ?_
            refine aw_topdE (dmul_p (-3) l2 nr ke) ?_
            refine aw_dstore [(8, .double (nd s c ((n.log2 : Int) - 52 + (-3)))), (6, .long (Int64.ofInt (FP.Core.signed s n))), (5, .int (nI (B p))), (2, .int (nI (wdK k + 1))), (0, .ref 0), (1, .int (nI k))] dX6_readsNumber_157 (Nat.le_of_ble_eq_true rfl) rfl ?_
            refine aw_iconst (v := 0) dX6_readsNumber_159 (by decide) ?_
            refine aw_istore [(10, .int 0), (8, .double (nd s c ((n.log2 : Int) - 52 + (-3)))), (6, .long (Int64.ofInt (FP.Core.signed s n))), (5, .int (nI (B p))), (2, .int (nI (wdK k + 1))), (0, .ref 0), (1, .int (nI k))] dX6_readsNumber_160 (Nat.le_of_ble_eq_true rfl) rfl ?_
            refine lp_rnD s c nr hb (B p) 0 _ (by omega) (by omega) (by omega) ?_
            rw [show (n.log2 : Int) - 52 + (-3) + ((B p : Nat) : Int) = (n.log2 : Int) - 55 + (B p : Nat) by omega]
            refine aw_iload_n dX6_readsNumber_183 6 rfl ?_
            refine aw_bipush (v := 6) dX6_readsNumber_184 (by decide) ?_
            refine aw_icmp_neN k 6 197 dX6_readsNumber_186 (by decide) rfl rfl (by omega) (by omega) (fun c1 => ?_) (fun c1 => absurd c1 (by omega))
            refine aw_dload dX6_readsNumber_197 1 rfl ?_
            refine aw_callSl [.double (nd s c ((n.log2 : Int) - 55 + (B p : Nat)))] [] (sp_X6_doubleBits (d := d - 1) (by omega) (nd s c ((n.log2 : Int) - 55 + (B p : Nat))) (Or.inr ⟨s, c, _, (by have q := d4; rw [show k = 7 by omega] at q; exact q), rfl⟩)) dX6_readsNumber_199 ml_X6_112 sm_X6_doubleBits rfl (dl1 (d := d) (by omega)) rfl rfl (Nat.le_of_ble_eq_true rfl) rfl rfl (Nat.zero_le _) (Nat.zero_le _) ?_
            refine aw_lret dX6_readsNumber_202 rfl (Nat.zero_le _) (Nat.zero_le _) ?_
            refine ⟨congrArg (fun z => some (Value.long z)) ?_, hmem⟩
            rw [hsf, show k = 7 by omega]
    · rw [if_neg cl]
      refine aw_iload_n dX6_readsNumber_0 1 rfl ?_
      refine aw_callSi [.int (nI k)] [] (sp_X6_width (d := d - 1) (by omega) (nI k) ) dX6_readsNumber_1 ml_X6_306 sm_X6_width rfl (dl1 (d := d) (by omega)) rfl rfl (Nat.le_of_ble_eq_true rfl) rfl rfl (Nat.zero_le _) (Nat.zero_le _) ?_
      refine aw_topE ((wd2 k hk).trans (congrArg nI ew)) ?_
      refine aw_istore_n [(2, .int (nI (wdK k + 1))), (0, .ref 0), (1, .int (nI k))] dX6_readsNumber_4 (Nat.le_of_ble_eq_true rfl) rfl ?_
      refine aw_aload_n dX6_readsNumber_5 1 rfl ?_
      refine aw_getI dX6_readsNumber_6 fl_X6_289 (hS.1.s 0 (by decide)) (hS.1.n 0 (by decide)) ?_
      refine aw_topE hp ?_
      refine aw_iload_n dX6_readsNumber_9 0 rfl ?_
      refine aw_iaddN p (wdK k + 1) dX6_readsNumber_10 rfl rfl ?_
      refine aw_aload_n dX6_readsNumber_11 1 rfl ?_
      refine aw_getI dX6_readsNumber_12 fl_X6_286 (hS.1.s 0 (by decide)) (hS.1.n 0 (by decide)) ?_
      refine aw_topE hS.2.2.1 ?_
      refine aw_icmp_leN (p + (wdK k + 1)) L 28 dX6_readsNumber_15 (by decide) rfl rfl (by omega) (by omega) (fun c1 => absurd c1 (by omega)) (fun c1 => ?_)
      refine aw_aload_n dX6_readsNumber_18 1 rfl ?_
      refine aw_aload_n dX6_readsNumber_19 1 rfl ?_
      refine aw_getI dX6_readsNumber_20 fl_X6_289 (hS.1.s 0 (by decide)) (hS.1.n 0 (by decide)) ?_
      refine aw_topE hp ?_
      refine aw_callVv [.int (nI p)] [] (sp_fa (d := d - 1) (nI p) hS.1 hf0) dX6_readsNumber_23 ml_X6_295 im_X6_faults (hS.1.s 0 (by decide)) (hS.1.n 0 (by decide)) rfl rfl (dl1 (d := d) (by omega)) rfl rfl (Nat.le_of_ble_eq_true rfl) rfl rfl (Nat.zero_le _) (Nat.zero_le _) ?_
      refine aw_lconst (v := 0) dX6_readsNumber_26 (by decide) ?_
      refine aw_lret dX6_readsNumber_27 rfl (Nat.zero_le _) (Nat.zero_le _) ?_
      exact ⟨⟨_, rfl⟩, FE_f M p⟩
theorem lp_rs {d : Nat} (hd : 1 ≤ d) {M : xM} {B : Nat → Nat} {L : Nat} {p : Nat} (hS : RfS M B L) (hp : mI M 0 24 = nI p) (hpl : p ≤ L) (hf0 : mI M 0 25 = -1) : ∀ g n v b, n + g = 10 → 127 < b → b < 256 → 0 < g → AW (fX6_readsStep d) 9 [(4, .int (nI b)), (3, .int (nI n)), (1, .long v), (0, .ref 0)] [] M 0 0 (QL M (pStep B L p g n v)) := by
  have hL2 := hS.2.1
  intro g
  induction g with
  | zero => intro n v b _ _ _ h; exact absurd h (by omega)
  | succ g ih =>
    intro n v b hn hb1 hb2 _
    unfold pStep
    by_cases cl : p + n < L
    · rw [if_pos cl]
      have hb := (hS.2.2.2 (p + n) cl).2
      by_cases c9 : n = 9 ∧ 1 < B (p + n)
      · rw [if_pos c9]
        refine aw_iload dX6_readsStep_9 0 rfl ?_
        refine aw_bipush (v := 127) dX6_readsStep_11 (by decide) ?_
        refine aw_icmp_leN b 127 84 dX6_readsStep_13 (by decide) rfl rfl (by omega) (by omega) (fun c1 => absurd c1 (by omega)) (fun c1 => ?_)
        refine aw_aload_n dX6_readsStep_16 3 rfl ?_
        refine aw_aload_n dX6_readsStep_17 3 rfl ?_
        refine aw_getI dX6_readsStep_18 fl_X6_289 (hS.1.s 0 (by decide)) (hS.1.n 0 (by decide)) ?_
        refine aw_topE hp ?_
        refine aw_iload_n dX6_readsStep_21 1 rfl ?_
        refine aw_iaddN p n dX6_readsStep_22 rfl rfl ?_
        refine aw_callVi [.int (nI (p + n))] [] (sp_by (d := d - 1) hS cl) dX6_readsStep_23 ml_X6_292 im_X6_byteAt (hS.1.s 0 (by decide)) (hS.1.n 0 (by decide)) rfl rfl (dl1 (d := d) (by omega)) rfl rfl (Nat.le_of_ble_eq_true rfl) rfl rfl (Nat.zero_le _) (Nat.zero_le _) ?_
        refine aw_istore [(4, .int (nI (B (p + n)))), (3, .int (nI n)), (1, .long v), (0, .ref 0)] dX6_readsStep_26 (Nat.le_of_ble_eq_true rfl) rfl ?_
        refine aw_iload dX6_readsStep_28 0 rfl ?_
        refine aw_if_lt 54 dX6_readsStep_30 (by decide) (fun c2 => absurd c2 (nI_nn (by omega))) (fun c2 => ?_)
        refine aw_iload_n dX6_readsStep_33 1 rfl ?_
        refine aw_bipush (v := 9) dX6_readsStep_34 (by decide) ?_
        refine aw_icmp_neN n 9 45 dX6_readsStep_36 (by decide) rfl rfl (by omega) (by omega) (fun c3 => absurd (by omega) c3) (fun c3 => ?_)
        refine aw_iload dX6_readsStep_39 0 rfl ?_
        refine aw_iconst (v := 1) dX6_readsStep_41 (by decide) ?_
        refine aw_icmp_gtN (B (p + n)) 1 54 dX6_readsStep_42 (by decide) rfl rfl (by omega) (by omega) (fun c4 => ?_) (fun c4 => absurd (by omega) c4)
        refine aw_aload_n dX6_readsStep_54 3 rfl ?_
        refine aw_aload_n dX6_readsStep_55 3 rfl ?_
        refine aw_getI dX6_readsStep_56 fl_X6_289 (hS.1.s 0 (by decide)) (hS.1.n 0 (by decide)) ?_
        refine aw_topE hp ?_
        refine aw_callVv [.int (nI p)] [] (sp_fa (d := d - 1) (nI p) hS.1 hf0) dX6_readsStep_59 ml_X6_295 im_X6_faults (hS.1.s 0 (by decide)) (hS.1.n 0 (by decide)) rfl rfl (dl1 (d := d) (by omega)) rfl rfl (Nat.le_of_ble_eq_true rfl) rfl rfl (Nat.zero_le _) (Nat.zero_le _) ?_
        refine aw_lconst (v := 0) dX6_readsStep_62 (by decide) ?_
        refine aw_lret dX6_readsStep_63 rfl (Nat.zero_le _) (Nat.zero_le _) ?_
        exact ⟨⟨_, rfl⟩, FE_f M p⟩
      · rw [if_neg c9]
        by_cases c8 : 128 ≤ B (p + n)
        · rw [if_pos c8]
          have n9 : ¬ n = 9 := by omega
          have q := ih (n + 1) (orB v (B (p + n)) n) (B (p + n)) (by omega) (by omega) hb (by omega)
          by_cases n0 : n = 0
          · skip
            refine aw_iload dX6_readsStep_9 0 rfl ?_
            refine aw_bipush (v := 127) dX6_readsStep_11 (by decide) ?_
            refine aw_icmp_leN b 127 84 dX6_readsStep_13 (by decide) rfl rfl (by omega) (by omega) (fun c1 => absurd c1 (by omega)) (fun c1 => ?_)
            refine aw_aload_n dX6_readsStep_16 3 rfl ?_
            refine aw_aload_n dX6_readsStep_17 3 rfl ?_
            refine aw_getI dX6_readsStep_18 fl_X6_289 (hS.1.s 0 (by decide)) (hS.1.n 0 (by decide)) ?_
            refine aw_topE hp ?_
            refine aw_iload_n dX6_readsStep_21 1 rfl ?_
            refine aw_iaddN p n dX6_readsStep_22 rfl rfl ?_
            refine aw_callVi [.int (nI (p + n))] [] (sp_by (d := d - 1) hS cl) dX6_readsStep_23 ml_X6_292 im_X6_byteAt (hS.1.s 0 (by decide)) (hS.1.n 0 (by decide)) rfl rfl (dl1 (d := d) (by omega)) rfl rfl (Nat.le_of_ble_eq_true rfl) rfl rfl (Nat.zero_le _) (Nat.zero_le _) ?_
            refine aw_istore [(4, .int (nI (B (p + n)))), (3, .int (nI n)), (1, .long v), (0, .ref 0)] dX6_readsStep_26 (Nat.le_of_ble_eq_true rfl) rfl ?_
            refine aw_iload dX6_readsStep_28 0 rfl ?_
            refine aw_if_lt 54 dX6_readsStep_30 (by decide) (fun c2 => absurd c2 (nI_nn (by omega))) (fun c2 => ?_)
            refine aw_iload_n dX6_readsStep_33 1 rfl ?_
            refine aw_bipush (v := 9) dX6_readsStep_34 (by decide) ?_
            refine aw_icmp_neN n 9 45 dX6_readsStep_36 (by decide) rfl rfl (by omega) (by omega) (fun c3 => ?_) (fun c3 => absurd c3 n9)
            refine aw_iload_n dX6_readsStep_45 1 rfl ?_
            refine aw_if_le 64 dX6_readsStep_46 (by decide) (fun c4 => ?_) (fun c4 => absurd ((nI_l0 (by omega)).mpr n0) c4)
            refine aw_lload_n dX6_readsStep_64 2 rfl ?_
            refine aw_iload dX6_readsStep_65 0 rfl ?_
            refine aw_bipush (v := 127) dX6_readsStep_67 (by decide) ?_
            refine aw_iand dX6_readsStep_69 ?_
            refine aw_topE and127 ?_
            refine aw_i2lN (B (p + n) % 128) dX6_readsStep_70 rfl (by omega) ?_
            refine aw_bipush (v := 7) dX6_readsStep_71 (by decide) ?_
            refine aw_iload_n dX6_readsStep_73 1 rfl ?_
            refine aw_imulN 7 n dX6_readsStep_74 rfl rfl ?_
            refine aw_lshl dX6_readsStep_75 ?_
            refine aw_lor dX6_readsStep_76 ?_
            refine aw_toplE (show _ = orB v (B (p + n)) n from rfl) ?_
            refine aw_lstore_n [(1, .long (orB v (B (p + n)) n)), (4, .int (nI (B (p + n)))), (3, .int (nI n)), (0, .ref 0)] dX6_readsStep_77 (Nat.le_of_ble_eq_true rfl) rfl ?_
            refine aw_iincN n 1 [(3, .int (nI (n + 1))), (1, .long (orB v (B (p + n)) n)), (4, .int (nI (B (p + n)))), (0, .ref 0)] dX6_readsStep_78 2 rfl rfl rfl (Nat.le_of_ble_eq_true rfl) rfl ?_
            refine aw_goto 9 dX6_readsStep_81 (by decide) ?_
            refine aw_sub [2, 0, 1, 3] rfl ?_
            exact q
          · skip
            refine aw_iload dX6_readsStep_9 0 rfl ?_
            refine aw_bipush (v := 127) dX6_readsStep_11 (by decide) ?_
            refine aw_icmp_leN b 127 84 dX6_readsStep_13 (by decide) rfl rfl (by omega) (by omega) (fun c1 => absurd c1 (by omega)) (fun c1 => ?_)
            refine aw_aload_n dX6_readsStep_16 3 rfl ?_
            refine aw_aload_n dX6_readsStep_17 3 rfl ?_
            refine aw_getI dX6_readsStep_18 fl_X6_289 (hS.1.s 0 (by decide)) (hS.1.n 0 (by decide)) ?_
            refine aw_topE hp ?_
            refine aw_iload_n dX6_readsStep_21 1 rfl ?_
            refine aw_iaddN p n dX6_readsStep_22 rfl rfl ?_
            refine aw_callVi [.int (nI (p + n))] [] (sp_by (d := d - 1) hS cl) dX6_readsStep_23 ml_X6_292 im_X6_byteAt (hS.1.s 0 (by decide)) (hS.1.n 0 (by decide)) rfl rfl (dl1 (d := d) (by omega)) rfl rfl (Nat.le_of_ble_eq_true rfl) rfl rfl (Nat.zero_le _) (Nat.zero_le _) ?_
            refine aw_istore [(4, .int (nI (B (p + n)))), (3, .int (nI n)), (1, .long v), (0, .ref 0)] dX6_readsStep_26 (Nat.le_of_ble_eq_true rfl) rfl ?_
            refine aw_iload dX6_readsStep_28 0 rfl ?_
            refine aw_if_lt 54 dX6_readsStep_30 (by decide) (fun c2 => absurd c2 (nI_nn (by omega))) (fun c2 => ?_)
            refine aw_iload_n dX6_readsStep_33 1 rfl ?_
            refine aw_bipush (v := 9) dX6_readsStep_34 (by decide) ?_
            refine aw_icmp_neN n 9 45 dX6_readsStep_36 (by decide) rfl rfl (by omega) (by omega) (fun c3 => ?_) (fun c3 => absurd c3 n9)
            refine aw_iload_n dX6_readsStep_45 1 rfl ?_
            refine aw_if_le 64 dX6_readsStep_46 (by decide) (fun c4 => absurd ((nI_l0 (by omega)).mp c4) n0) (fun c4 => ?_)
            refine aw_iload dX6_readsStep_49 0 rfl ?_
            refine aw_if_ne 64 dX6_readsStep_51 (by decide) (fun c5 => ?_) (fun c5 => absurd ((nI_z (by omega)).mp c5) (by omega))
            refine aw_lload_n dX6_readsStep_64 2 rfl ?_
            refine aw_iload dX6_readsStep_65 0 rfl ?_
            refine aw_bipush (v := 127) dX6_readsStep_67 (by decide) ?_
            refine aw_iand dX6_readsStep_69 ?_
            refine aw_topE and127 ?_
            refine aw_i2lN (B (p + n) % 128) dX6_readsStep_70 rfl (by omega) ?_
            refine aw_bipush (v := 7) dX6_readsStep_71 (by decide) ?_
            refine aw_iload_n dX6_readsStep_73 1 rfl ?_
            refine aw_imulN 7 n dX6_readsStep_74 rfl rfl ?_
            refine aw_lshl dX6_readsStep_75 ?_
            refine aw_lor dX6_readsStep_76 ?_
            refine aw_toplE (show _ = orB v (B (p + n)) n from rfl) ?_
            refine aw_lstore_n [(1, .long (orB v (B (p + n)) n)), (4, .int (nI (B (p + n)))), (3, .int (nI n)), (0, .ref 0)] dX6_readsStep_77 (Nat.le_of_ble_eq_true rfl) rfl ?_
            refine aw_iincN n 1 [(3, .int (nI (n + 1))), (1, .long (orB v (B (p + n)) n)), (4, .int (nI (B (p + n)))), (0, .ref 0)] dX6_readsStep_78 2 rfl rfl rfl (Nat.le_of_ble_eq_true rfl) rfl ?_
            refine aw_goto 9 dX6_readsStep_81 (by decide) ?_
            refine aw_sub [2, 0, 1, 3] rfl ?_
            exact q
        · rw [if_neg c8]
          by_cases c0 : B (p + n) = 0 ∧ 0 < n
          · rw [if_pos c0]
            by_cases n9 : n = 9
            · skip
              refine aw_iload dX6_readsStep_9 0 rfl ?_
              refine aw_bipush (v := 127) dX6_readsStep_11 (by decide) ?_
              refine aw_icmp_leN b 127 84 dX6_readsStep_13 (by decide) rfl rfl (by omega) (by omega) (fun c1 => absurd c1 (by omega)) (fun c1 => ?_)
              refine aw_aload_n dX6_readsStep_16 3 rfl ?_
              refine aw_aload_n dX6_readsStep_17 3 rfl ?_
              refine aw_getI dX6_readsStep_18 fl_X6_289 (hS.1.s 0 (by decide)) (hS.1.n 0 (by decide)) ?_
              refine aw_topE hp ?_
              refine aw_iload_n dX6_readsStep_21 1 rfl ?_
              refine aw_iaddN p n dX6_readsStep_22 rfl rfl ?_
              refine aw_callVi [.int (nI (p + n))] [] (sp_by (d := d - 1) hS cl) dX6_readsStep_23 ml_X6_292 im_X6_byteAt (hS.1.s 0 (by decide)) (hS.1.n 0 (by decide)) rfl rfl (dl1 (d := d) (by omega)) rfl rfl (Nat.le_of_ble_eq_true rfl) rfl rfl (Nat.zero_le _) (Nat.zero_le _) ?_
              refine aw_istore [(4, .int (nI (B (p + n)))), (3, .int (nI n)), (1, .long v), (0, .ref 0)] dX6_readsStep_26 (Nat.le_of_ble_eq_true rfl) rfl ?_
              refine aw_iload dX6_readsStep_28 0 rfl ?_
              refine aw_if_lt 54 dX6_readsStep_30 (by decide) (fun c2 => absurd c2 (nI_nn (by omega))) (fun c2 => ?_)
              refine aw_iload_n dX6_readsStep_33 1 rfl ?_
              refine aw_bipush (v := 9) dX6_readsStep_34 (by decide) ?_
              refine aw_icmp_neN n 9 45 dX6_readsStep_36 (by decide) rfl rfl (by omega) (by omega) (fun c3 => absurd n9 c3) (fun c3 => ?_)
              refine aw_iload dX6_readsStep_39 0 rfl ?_
              refine aw_iconst (v := 1) dX6_readsStep_41 (by decide) ?_
              refine aw_icmp_gtN (B (p + n)) 1 54 dX6_readsStep_42 (by decide) rfl rfl (by omega) (by omega) (fun c4 => absurd c4 (by omega)) (fun c4 => ?_)
              refine aw_iload_n dX6_readsStep_45 1 rfl ?_
              refine aw_if_le 64 dX6_readsStep_46 (by decide) (fun c5 => absurd ((nI_l0 (by omega)).mp c5) (by omega)) (fun c5 => ?_)
              refine aw_iload dX6_readsStep_49 0 rfl ?_
              refine aw_if_ne 64 dX6_readsStep_51 (by decide) (fun c6 => absurd ((nI_z (by omega)).mpr c0.1) c6) (fun c6 => ?_)
              refine aw_aload_n dX6_readsStep_54 3 rfl ?_
              refine aw_aload_n dX6_readsStep_55 3 rfl ?_
              refine aw_getI dX6_readsStep_56 fl_X6_289 (hS.1.s 0 (by decide)) (hS.1.n 0 (by decide)) ?_
              refine aw_topE hp ?_
              refine aw_callVv [.int (nI p)] [] (sp_fa (d := d - 1) (nI p) hS.1 hf0) dX6_readsStep_59 ml_X6_295 im_X6_faults (hS.1.s 0 (by decide)) (hS.1.n 0 (by decide)) rfl rfl (dl1 (d := d) (by omega)) rfl rfl (Nat.le_of_ble_eq_true rfl) rfl rfl (Nat.zero_le _) (Nat.zero_le _) ?_
              refine aw_lconst (v := 0) dX6_readsStep_62 (by decide) ?_
              refine aw_lret dX6_readsStep_63 rfl (Nat.zero_le _) (Nat.zero_le _) ?_
              exact ⟨⟨_, rfl⟩, FE_f M p⟩
            · skip
              refine aw_iload dX6_readsStep_9 0 rfl ?_
              refine aw_bipush (v := 127) dX6_readsStep_11 (by decide) ?_
              refine aw_icmp_leN b 127 84 dX6_readsStep_13 (by decide) rfl rfl (by omega) (by omega) (fun c1 => absurd c1 (by omega)) (fun c1 => ?_)
              refine aw_aload_n dX6_readsStep_16 3 rfl ?_
              refine aw_aload_n dX6_readsStep_17 3 rfl ?_
              refine aw_getI dX6_readsStep_18 fl_X6_289 (hS.1.s 0 (by decide)) (hS.1.n 0 (by decide)) ?_
              refine aw_topE hp ?_
              refine aw_iload_n dX6_readsStep_21 1 rfl ?_
              refine aw_iaddN p n dX6_readsStep_22 rfl rfl ?_
              refine aw_callVi [.int (nI (p + n))] [] (sp_by (d := d - 1) hS cl) dX6_readsStep_23 ml_X6_292 im_X6_byteAt (hS.1.s 0 (by decide)) (hS.1.n 0 (by decide)) rfl rfl (dl1 (d := d) (by omega)) rfl rfl (Nat.le_of_ble_eq_true rfl) rfl rfl (Nat.zero_le _) (Nat.zero_le _) ?_
              refine aw_istore [(4, .int (nI (B (p + n)))), (3, .int (nI n)), (1, .long v), (0, .ref 0)] dX6_readsStep_26 (Nat.le_of_ble_eq_true rfl) rfl ?_
              refine aw_iload dX6_readsStep_28 0 rfl ?_
              refine aw_if_lt 54 dX6_readsStep_30 (by decide) (fun c2 => absurd c2 (nI_nn (by omega))) (fun c2 => ?_)
              refine aw_iload_n dX6_readsStep_33 1 rfl ?_
              refine aw_bipush (v := 9) dX6_readsStep_34 (by decide) ?_
              refine aw_icmp_neN n 9 45 dX6_readsStep_36 (by decide) rfl rfl (by omega) (by omega) (fun c3 => ?_) (fun c3 => absurd c3 n9)
              refine aw_iload_n dX6_readsStep_45 1 rfl ?_
              refine aw_if_le 64 dX6_readsStep_46 (by decide) (fun c4 => absurd ((nI_l0 (by omega)).mp c4) (by omega)) (fun c4 => ?_)
              refine aw_iload dX6_readsStep_49 0 rfl ?_
              refine aw_if_ne 64 dX6_readsStep_51 (by decide) (fun c5 => absurd ((nI_z (by omega)).mpr c0.1) c5) (fun c5 => ?_)
              refine aw_aload_n dX6_readsStep_54 3 rfl ?_
              refine aw_aload_n dX6_readsStep_55 3 rfl ?_
              refine aw_getI dX6_readsStep_56 fl_X6_289 (hS.1.s 0 (by decide)) (hS.1.n 0 (by decide)) ?_
              refine aw_topE hp ?_
              refine aw_callVv [.int (nI p)] [] (sp_fa (d := d - 1) (nI p) hS.1 hf0) dX6_readsStep_59 ml_X6_295 im_X6_faults (hS.1.s 0 (by decide)) (hS.1.n 0 (by decide)) rfl rfl (dl1 (d := d) (by omega)) rfl rfl (Nat.le_of_ble_eq_true rfl) rfl rfl (Nat.zero_le _) (Nat.zero_le _) ?_
              refine aw_lconst (v := 0) dX6_readsStep_62 (by decide) ?_
              refine aw_lret dX6_readsStep_63 rfl (Nat.zero_le _) (Nat.zero_le _) ?_
              exact ⟨⟨_, rfl⟩, FE_f M p⟩
          · rw [if_neg c0]
            by_cases n9 : n = 9
            · by_cases cz : B (p + n) = 0
              · exact absurd ⟨cz, by omega⟩ c0
              · skip
                refine aw_iload dX6_readsStep_9 0 rfl ?_
                refine aw_bipush (v := 127) dX6_readsStep_11 (by decide) ?_
                refine aw_icmp_leN b 127 84 dX6_readsStep_13 (by decide) rfl rfl (by omega) (by omega) (fun c1 => absurd c1 (by omega)) (fun c1 => ?_)
                refine aw_aload_n dX6_readsStep_16 3 rfl ?_
                refine aw_aload_n dX6_readsStep_17 3 rfl ?_
                refine aw_getI dX6_readsStep_18 fl_X6_289 (hS.1.s 0 (by decide)) (hS.1.n 0 (by decide)) ?_
                refine aw_topE hp ?_
                refine aw_iload_n dX6_readsStep_21 1 rfl ?_
                refine aw_iaddN p n dX6_readsStep_22 rfl rfl ?_
                refine aw_callVi [.int (nI (p + n))] [] (sp_by (d := d - 1) hS cl) dX6_readsStep_23 ml_X6_292 im_X6_byteAt (hS.1.s 0 (by decide)) (hS.1.n 0 (by decide)) rfl rfl (dl1 (d := d) (by omega)) rfl rfl (Nat.le_of_ble_eq_true rfl) rfl rfl (Nat.zero_le _) (Nat.zero_le _) ?_
                refine aw_istore [(4, .int (nI (B (p + n)))), (3, .int (nI n)), (1, .long v), (0, .ref 0)] dX6_readsStep_26 (Nat.le_of_ble_eq_true rfl) rfl ?_
                refine aw_iload dX6_readsStep_28 0 rfl ?_
                refine aw_if_lt 54 dX6_readsStep_30 (by decide) (fun c2 => absurd c2 (nI_nn (by omega))) (fun c2 => ?_)
                refine aw_iload_n dX6_readsStep_33 1 rfl ?_
                refine aw_bipush (v := 9) dX6_readsStep_34 (by decide) ?_
                refine aw_icmp_neN n 9 45 dX6_readsStep_36 (by decide) rfl rfl (by omega) (by omega) (fun c3 => absurd n9 c3) (fun c3 => ?_)
                refine aw_iload dX6_readsStep_39 0 rfl ?_
                refine aw_iconst (v := 1) dX6_readsStep_41 (by decide) ?_
                refine aw_icmp_gtN (B (p + n)) 1 54 dX6_readsStep_42 (by decide) rfl rfl (by omega) (by omega) (fun c4 => absurd c4 (by omega)) (fun c4 => ?_)
                refine aw_iload_n dX6_readsStep_45 1 rfl ?_
                refine aw_if_le 64 dX6_readsStep_46 (by decide) (fun c5 => absurd ((nI_l0 (by omega)).mp c5) (by omega)) (fun c5 => ?_)
                refine aw_iload dX6_readsStep_49 0 rfl ?_
                refine aw_if_ne 64 dX6_readsStep_51 (by decide) (fun c6 => ?_) (fun c6 => absurd ((nI_z (by omega)).mp c6) cz)
                refine aw_lload_n dX6_readsStep_64 2 rfl ?_
                refine aw_iload dX6_readsStep_65 0 rfl ?_
                refine aw_bipush (v := 127) dX6_readsStep_67 (by decide) ?_
                refine aw_iand dX6_readsStep_69 ?_
                refine aw_topE and127 ?_
                refine aw_i2lN (B (p + n) % 128) dX6_readsStep_70 rfl (by omega) ?_
                refine aw_bipush (v := 7) dX6_readsStep_71 (by decide) ?_
                refine aw_iload_n dX6_readsStep_73 1 rfl ?_
                refine aw_imulN 7 n dX6_readsStep_74 rfl rfl ?_
                refine aw_lshl dX6_readsStep_75 ?_
                refine aw_lor dX6_readsStep_76 ?_
                refine aw_toplE (show _ = orB v (B (p + n)) n from rfl) ?_
                refine aw_lstore_n [(1, .long (orB v (B (p + n)) n)), (4, .int (nI (B (p + n)))), (3, .int (nI n)), (0, .ref 0)] dX6_readsStep_77 (Nat.le_of_ble_eq_true rfl) rfl ?_
                refine aw_iincN n 1 [(3, .int (nI (n + 1))), (1, .long (orB v (B (p + n)) n)), (4, .int (nI (B (p + n)))), (0, .ref 0)] dX6_readsStep_78 2 rfl rfl rfl (Nat.le_of_ble_eq_true rfl) rfl ?_
                refine aw_goto 9 dX6_readsStep_81 (by decide) ?_
                refine aw_iload dX6_readsStep_9 2 rfl ?_
                refine aw_bipush (v := 127) dX6_readsStep_11 (by decide) ?_
                refine aw_icmp_leN (B (p + n)) 127 84 dX6_readsStep_13 (by decide) rfl rfl (by omega) (by omega) (fun c7 => ?_) (fun c7 => absurd (by omega) c7)
                refine aw_aload_n dX6_readsStep_84 3 rfl ?_
                refine aw_dup dX6_readsStep_85 rfl ?_
                refine aw_getI dX6_readsStep_86 fl_X6_289 (hS.1.s 0 (by decide)) (hS.1.n 0 (by decide)) ?_
                refine aw_topE hp ?_
                refine aw_iload_n dX6_readsStep_89 0 rfl ?_
                refine aw_iaddN p (n + 1) dX6_readsStep_90 rfl rfl ?_
                refine aw_putI dX6_readsStep_91 fl_X6_289 (Or.inl rfl) (hS.1.s 0 (by decide)) (hS.1.n 0 (by decide)) ?_
                refine aw_lload_n dX6_readsStep_94 1 rfl ?_
                refine aw_iconst (v := 1) dX6_readsStep_95 (by decide) ?_
                refine aw_lushr dX6_readsStep_96 ?_
                refine aw_lload_n dX6_readsStep_97 1 rfl ?_
                refine aw_lconst (v := 1) dX6_readsStep_98 (by decide) ?_
                refine aw_land dX6_readsStep_99 ?_
                refine aw_lneg dX6_readsStep_100 ?_
                refine aw_lxor dX6_readsStep_101 ?_
                refine aw_lret dX6_readsStep_102 rfl (Nat.zero_le _) (Nat.zero_le _) ?_
                exact ⟨rfl, rfl⟩
            · by_cases n0 : n = 0
              · skip
                refine aw_iload dX6_readsStep_9 0 rfl ?_
                refine aw_bipush (v := 127) dX6_readsStep_11 (by decide) ?_
                refine aw_icmp_leN b 127 84 dX6_readsStep_13 (by decide) rfl rfl (by omega) (by omega) (fun c1 => absurd c1 (by omega)) (fun c1 => ?_)
                refine aw_aload_n dX6_readsStep_16 3 rfl ?_
                refine aw_aload_n dX6_readsStep_17 3 rfl ?_
                refine aw_getI dX6_readsStep_18 fl_X6_289 (hS.1.s 0 (by decide)) (hS.1.n 0 (by decide)) ?_
                refine aw_topE hp ?_
                refine aw_iload_n dX6_readsStep_21 1 rfl ?_
                refine aw_iaddN p n dX6_readsStep_22 rfl rfl ?_
                refine aw_callVi [.int (nI (p + n))] [] (sp_by (d := d - 1) hS cl) dX6_readsStep_23 ml_X6_292 im_X6_byteAt (hS.1.s 0 (by decide)) (hS.1.n 0 (by decide)) rfl rfl (dl1 (d := d) (by omega)) rfl rfl (Nat.le_of_ble_eq_true rfl) rfl rfl (Nat.zero_le _) (Nat.zero_le _) ?_
                refine aw_istore [(4, .int (nI (B (p + n)))), (3, .int (nI n)), (1, .long v), (0, .ref 0)] dX6_readsStep_26 (Nat.le_of_ble_eq_true rfl) rfl ?_
                refine aw_iload dX6_readsStep_28 0 rfl ?_
                refine aw_if_lt 54 dX6_readsStep_30 (by decide) (fun c2 => absurd c2 (nI_nn (by omega))) (fun c2 => ?_)
                refine aw_iload_n dX6_readsStep_33 1 rfl ?_
                refine aw_bipush (v := 9) dX6_readsStep_34 (by decide) ?_
                refine aw_icmp_neN n 9 45 dX6_readsStep_36 (by decide) rfl rfl (by omega) (by omega) (fun c3 => ?_) (fun c3 => absurd c3 n9)
                refine aw_iload_n dX6_readsStep_45 1 rfl ?_
                refine aw_if_le 64 dX6_readsStep_46 (by decide) (fun c4 => ?_) (fun c4 => absurd ((nI_l0 (by omega)).mpr n0) c4)
                refine aw_lload_n dX6_readsStep_64 2 rfl ?_
                refine aw_iload dX6_readsStep_65 0 rfl ?_
                refine aw_bipush (v := 127) dX6_readsStep_67 (by decide) ?_
                refine aw_iand dX6_readsStep_69 ?_
                refine aw_topE and127 ?_
                refine aw_i2lN (B (p + n) % 128) dX6_readsStep_70 rfl (by omega) ?_
                refine aw_bipush (v := 7) dX6_readsStep_71 (by decide) ?_
                refine aw_iload_n dX6_readsStep_73 1 rfl ?_
                refine aw_imulN 7 n dX6_readsStep_74 rfl rfl ?_
                refine aw_lshl dX6_readsStep_75 ?_
                refine aw_lor dX6_readsStep_76 ?_
                refine aw_toplE (show _ = orB v (B (p + n)) n from rfl) ?_
                refine aw_lstore_n [(1, .long (orB v (B (p + n)) n)), (4, .int (nI (B (p + n)))), (3, .int (nI n)), (0, .ref 0)] dX6_readsStep_77 (Nat.le_of_ble_eq_true rfl) rfl ?_
                refine aw_iincN n 1 [(3, .int (nI (n + 1))), (1, .long (orB v (B (p + n)) n)), (4, .int (nI (B (p + n)))), (0, .ref 0)] dX6_readsStep_78 2 rfl rfl rfl (Nat.le_of_ble_eq_true rfl) rfl ?_
                refine aw_goto 9 dX6_readsStep_81 (by decide) ?_
                refine aw_iload dX6_readsStep_9 2 rfl ?_
                refine aw_bipush (v := 127) dX6_readsStep_11 (by decide) ?_
                refine aw_icmp_leN (B (p + n)) 127 84 dX6_readsStep_13 (by decide) rfl rfl (by omega) (by omega) (fun c5 => ?_) (fun c5 => absurd (by omega) c5)
                refine aw_aload_n dX6_readsStep_84 3 rfl ?_
                refine aw_dup dX6_readsStep_85 rfl ?_
                refine aw_getI dX6_readsStep_86 fl_X6_289 (hS.1.s 0 (by decide)) (hS.1.n 0 (by decide)) ?_
                refine aw_topE hp ?_
                refine aw_iload_n dX6_readsStep_89 0 rfl ?_
                refine aw_iaddN p (n + 1) dX6_readsStep_90 rfl rfl ?_
                refine aw_putI dX6_readsStep_91 fl_X6_289 (Or.inl rfl) (hS.1.s 0 (by decide)) (hS.1.n 0 (by decide)) ?_
                refine aw_lload_n dX6_readsStep_94 1 rfl ?_
                refine aw_iconst (v := 1) dX6_readsStep_95 (by decide) ?_
                refine aw_lushr dX6_readsStep_96 ?_
                refine aw_lload_n dX6_readsStep_97 1 rfl ?_
                refine aw_lconst (v := 1) dX6_readsStep_98 (by decide) ?_
                refine aw_land dX6_readsStep_99 ?_
                refine aw_lneg dX6_readsStep_100 ?_
                refine aw_lxor dX6_readsStep_101 ?_
                refine aw_lret dX6_readsStep_102 rfl (Nat.zero_le _) (Nat.zero_le _) ?_
                exact ⟨rfl, rfl⟩
              · have cz : ¬ B (p + n) = 0 := fun z => c0 ⟨z, by omega⟩
                refine aw_iload dX6_readsStep_9 0 rfl ?_
                refine aw_bipush (v := 127) dX6_readsStep_11 (by decide) ?_
                refine aw_icmp_leN b 127 84 dX6_readsStep_13 (by decide) rfl rfl (by omega) (by omega) (fun c1 => absurd c1 (by omega)) (fun c1 => ?_)
                refine aw_aload_n dX6_readsStep_16 3 rfl ?_
                refine aw_aload_n dX6_readsStep_17 3 rfl ?_
                refine aw_getI dX6_readsStep_18 fl_X6_289 (hS.1.s 0 (by decide)) (hS.1.n 0 (by decide)) ?_
                refine aw_topE hp ?_
                refine aw_iload_n dX6_readsStep_21 1 rfl ?_
                refine aw_iaddN p n dX6_readsStep_22 rfl rfl ?_
                refine aw_callVi [.int (nI (p + n))] [] (sp_by (d := d - 1) hS cl) dX6_readsStep_23 ml_X6_292 im_X6_byteAt (hS.1.s 0 (by decide)) (hS.1.n 0 (by decide)) rfl rfl (dl1 (d := d) (by omega)) rfl rfl (Nat.le_of_ble_eq_true rfl) rfl rfl (Nat.zero_le _) (Nat.zero_le _) ?_
                refine aw_istore [(4, .int (nI (B (p + n)))), (3, .int (nI n)), (1, .long v), (0, .ref 0)] dX6_readsStep_26 (Nat.le_of_ble_eq_true rfl) rfl ?_
                refine aw_iload dX6_readsStep_28 0 rfl ?_
                refine aw_if_lt 54 dX6_readsStep_30 (by decide) (fun c2 => absurd c2 (nI_nn (by omega))) (fun c2 => ?_)
                refine aw_iload_n dX6_readsStep_33 1 rfl ?_
                refine aw_bipush (v := 9) dX6_readsStep_34 (by decide) ?_
                refine aw_icmp_neN n 9 45 dX6_readsStep_36 (by decide) rfl rfl (by omega) (by omega) (fun c3 => ?_) (fun c3 => absurd c3 n9)
                refine aw_iload_n dX6_readsStep_45 1 rfl ?_
                refine aw_if_le 64 dX6_readsStep_46 (by decide) (fun c4 => absurd ((nI_l0 (by omega)).mp c4) (by omega)) (fun c4 => ?_)
                refine aw_iload dX6_readsStep_49 0 rfl ?_
                refine aw_if_ne 64 dX6_readsStep_51 (by decide) (fun c5 => ?_) (fun c5 => absurd ((nI_z (by omega)).mp c5) cz)
                refine aw_lload_n dX6_readsStep_64 2 rfl ?_
                refine aw_iload dX6_readsStep_65 0 rfl ?_
                refine aw_bipush (v := 127) dX6_readsStep_67 (by decide) ?_
                refine aw_iand dX6_readsStep_69 ?_
                refine aw_topE and127 ?_
                refine aw_i2lN (B (p + n) % 128) dX6_readsStep_70 rfl (by omega) ?_
                refine aw_bipush (v := 7) dX6_readsStep_71 (by decide) ?_
                refine aw_iload_n dX6_readsStep_73 1 rfl ?_
                refine aw_imulN 7 n dX6_readsStep_74 rfl rfl ?_
                refine aw_lshl dX6_readsStep_75 ?_
                refine aw_lor dX6_readsStep_76 ?_
                refine aw_toplE (show _ = orB v (B (p + n)) n from rfl) ?_
                refine aw_lstore_n [(1, .long (orB v (B (p + n)) n)), (4, .int (nI (B (p + n)))), (3, .int (nI n)), (0, .ref 0)] dX6_readsStep_77 (Nat.le_of_ble_eq_true rfl) rfl ?_
                refine aw_iincN n 1 [(3, .int (nI (n + 1))), (1, .long (orB v (B (p + n)) n)), (4, .int (nI (B (p + n)))), (0, .ref 0)] dX6_readsStep_78 2 rfl rfl rfl (Nat.le_of_ble_eq_true rfl) rfl ?_
                refine aw_goto 9 dX6_readsStep_81 (by decide) ?_
                refine aw_iload dX6_readsStep_9 2 rfl ?_
                refine aw_bipush (v := 127) dX6_readsStep_11 (by decide) ?_
                refine aw_icmp_leN (B (p + n)) 127 84 dX6_readsStep_13 (by decide) rfl rfl (by omega) (by omega) (fun c6 => ?_) (fun c6 => absurd (by omega) c6)
                refine aw_aload_n dX6_readsStep_84 3 rfl ?_
                refine aw_dup dX6_readsStep_85 rfl ?_
                refine aw_getI dX6_readsStep_86 fl_X6_289 (hS.1.s 0 (by decide)) (hS.1.n 0 (by decide)) ?_
                refine aw_topE hp ?_
                refine aw_iload_n dX6_readsStep_89 0 rfl ?_
                refine aw_iaddN p (n + 1) dX6_readsStep_90 rfl rfl ?_
                refine aw_putI dX6_readsStep_91 fl_X6_289 (Or.inl rfl) (hS.1.s 0 (by decide)) (hS.1.n 0 (by decide)) ?_
                refine aw_lload_n dX6_readsStep_94 1 rfl ?_
                refine aw_iconst (v := 1) dX6_readsStep_95 (by decide) ?_
                refine aw_lushr dX6_readsStep_96 ?_
                refine aw_lload_n dX6_readsStep_97 1 rfl ?_
                refine aw_lconst (v := 1) dX6_readsStep_98 (by decide) ?_
                refine aw_land dX6_readsStep_99 ?_
                refine aw_lneg dX6_readsStep_100 ?_
                refine aw_lxor dX6_readsStep_101 ?_
                refine aw_lret dX6_readsStep_102 rfl (Nat.zero_le _) (Nat.zero_le _) ?_
                exact ⟨rfl, rfl⟩
    · rw [if_neg cl]
      refine aw_iload dX6_readsStep_9 0 rfl ?_
      refine aw_bipush (v := 127) dX6_readsStep_11 (by decide) ?_
      refine aw_icmp_leN b 127 84 dX6_readsStep_13 (by decide) rfl rfl (by omega) (by omega) (fun c1 => absurd c1 (by omega)) (fun c1 => ?_)
      refine aw_aload_n dX6_readsStep_16 3 rfl ?_
      refine aw_aload_n dX6_readsStep_17 3 rfl ?_
      refine aw_getI dX6_readsStep_18 fl_X6_289 (hS.1.s 0 (by decide)) (hS.1.n 0 (by decide)) ?_
      refine aw_topE hp ?_
      refine aw_iload_n dX6_readsStep_21 1 rfl ?_
      refine aw_iaddN p n dX6_readsStep_22 rfl rfl ?_
      refine aw_callVi [.int (nI (p + n))] [] (sp_byn (d := d - 1) hS cl (by omega)) dX6_readsStep_23 ml_X6_292 im_X6_byteAt (hS.1.s 0 (by decide)) (hS.1.n 0 (by decide)) rfl rfl (dl1 (d := d) (by omega)) rfl rfl (Nat.le_of_ble_eq_true rfl) rfl rfl (Nat.zero_le _) (Nat.zero_le _) ?_
      refine aw_istore [(4, .int (-1)), (3, .int (nI n)), (1, .long v), (0, .ref 0)] dX6_readsStep_26 (Nat.le_of_ble_eq_true rfl) rfl ?_
      refine aw_iload dX6_readsStep_28 0 rfl ?_
      refine aw_if_lt 54 dX6_readsStep_30 (by decide) (fun c2 => ?_) (fun c2 => absurd (by decide) c2)
      refine aw_aload_n dX6_readsStep_54 3 rfl ?_
      refine aw_aload_n dX6_readsStep_55 3 rfl ?_
      refine aw_getI dX6_readsStep_56 fl_X6_289 (hS.1.s 0 (by decide)) (hS.1.n 0 (by decide)) ?_
      refine aw_topE hp ?_
      refine aw_callVv [.int (nI p)] [] (sp_fa (d := d - 1) (nI p) hS.1 hf0) dX6_readsStep_59 ml_X6_295 im_X6_faults (hS.1.s 0 (by decide)) (hS.1.n 0 (by decide)) rfl rfl (dl1 (d := d) (by omega)) rfl rfl (Nat.le_of_ble_eq_true rfl) rfl rfl (Nat.zero_le _) (Nat.zero_le _) ?_
      refine aw_lconst (v := 0) dX6_readsStep_62 (by decide) ?_
      refine aw_lret dX6_readsStep_63 rfl (Nat.zero_le _) (Nat.zero_le _) ?_
      exact ⟨⟨_, rfl⟩, FE_f M p⟩
theorem sp_rs {d : Nat} (hd : 1 ≤ d) {M : xM} {B : Nat → Nat} {L : Nat} {p : Nat} (hS : RfS M B L) (hp : mI M 0 24 = nI p) (hpl : p ≤ L) (hf0 : mI M 0 25 = -1) : Sp (fX6_readsStep d) [.ref 0] M (QL M (pStep B L p 10 0 0)) := by
  refine Sp.of pn_X6 (Nat.le_of_ble_eq_true rfl) (fun h => Bool.noConfusion h) ?_
  have hL2 := hS.2.1
  refine aw_lconst (v := 0) dX6_readsStep_0 (by decide) ?_
  refine aw_lstore_n [(1, .long 0), (0, .ref 0)] dX6_readsStep_1 (Nat.le_of_ble_eq_true rfl) rfl ?_
  refine aw_iconst (v := 0) dX6_readsStep_2 (by decide) ?_
  refine aw_istore_n [(3, .int 0), (1, .long 0), (0, .ref 0)] dX6_readsStep_3 (Nat.le_of_ble_eq_true rfl) rfl ?_
  refine aw_sipush (v := 128) dX6_readsStep_4 (by decide) ?_
  refine aw_istore [(4, .int 128), (3, .int 0), (1, .long 0), (0, .ref 0)] dX6_readsStep_7 (Nat.le_of_ble_eq_true rfl) rfl ?_
  exact lp_rs hd hS hp hpl hf0 10 0 0 128 (by omega) (by omega) (by omega) (by omega)
theorem lp_rwd {d : Nat} (hd : 2 ≤ d) {M : xM} {B : Nat → Nat} {L : Nat} {n : Nat} (hS : RfS M B L) (hf0 : mI M 0 25 = -1) (hn : n ≤ 7) : ∀ j i c p, i + j = n → p ≤ L → AW (fX6_readsWord d) 13 [(4, .int (nI i)), (2, .long (lN c)), (1, .int (nI n)), (0, .ref 0)] [] (stI M 0 24 (nI p)) 0 0 (QL M (pLet B L j c p)) := by
  have hL2 := hS.2.1
  intro j
  induction j with
  | zero =>
    intro i c p hi hpl
    refine aw_iload dX6_readsWord_13 0 rfl ?_
    refine aw_iload_n dX6_readsWord_15 2 rfl ?_
    refine aw_icmp_geN i n 52 dX6_readsWord_16 (by decide) rfl rfl (by omega) (by omega) (fun c1 => ?_) (fun c1 => absurd (by omega) c1)
    refine aw_lload_n dX6_readsWord_52 1 rfl ?_
    refine aw_lret dX6_readsWord_53 rfl (Nat.zero_le _) (Nat.zero_le _) ?_
    exact ⟨rfl, rfl⟩
  | succ j ih =>
    intro i c p hi hpl
    have hf1 : mI (stI M 0 24 (nI p)) 0 25 = -1 := (mI_stI_o _ _ _ _ (by decide)).trans hf0
    unfold pLet
    by_cases hc : p < L ∧ 97 ≤ B p ∧ B p ≤ 122
    · rw [if_pos hc]
      have hb := (hS.2.2.2 p hc.1).2
      have q := ih (i + 1) (27 * c + (B p - 96)) (p + 1) (by omega) (by omega)
      rw [← stI_2 M 0 24 (nI p) (nI (p + 1))] at q
      have ev : (lN (27 * c + B p)) - 96 = lN (27 * c + (B p - 96)) := by
        show (lN (27 * c + B p)) - lN 96 = _
        rw [lN_sb (by omega), show 27 * c + B p - 96 = 27 * c + (B p - 96) by omega]
      refine aw_iload dX6_readsWord_13 0 rfl ?_
      refine aw_iload_n dX6_readsWord_15 2 rfl ?_
      refine aw_icmp_geN i n 52 dX6_readsWord_16 (by decide) rfl rfl (by omega) (by omega) (fun c1 => absurd c1 (by omega)) (fun c1 => ?_)
      refine aw_aload_n dX6_readsWord_19 3 rfl ?_
      refine aw_getI dX6_readsWord_20 fl_X6_283 ((hS.i 24 (nI p) (by decide)).1.s 0 (by decide)) ((hS.i 24 (nI p) (by decide)).1.n 0 (by decide)) ?_
      refine aw_topE hf1 ?_
      refine aw_if_ge 52 dX6_readsWord_23 (by decide) (fun c2 => absurd c2 (by decide)) (fun c2 => ?_)
      refine aw_ldc2 dX6_readsWord_26 kc_X6_69 ?_
      refine aw_lload_n dX6_readsWord_29 1 rfl ?_
      refine aw_lmulN 27 c dX6_readsWord_30 rfl rfl ?_
      refine aw_aload_n dX6_readsWord_31 3 rfl ?_
      refine aw_bipush (v := 97) dX6_readsWord_32 (by decide) ?_
      refine aw_bipush (v := 122) dX6_readsWord_34 (by decide) ?_
      refine aw_callVi [.int 97, .int 122] [.long (lN (27 * c))] (sp_p1k (d := d - 1) (by omega) 97 122 (hS.i 24 (nI p) (by decide)) (mI_stI_v _ _ _ _) hpl hf1 (by decide) (by decide) hc) dX6_readsWord_36 ml_X6_320 im_X6_part1 ((hS.i 24 (nI p) (by decide)).1.s 0 (by decide)) ((hS.i 24 (nI p) (by decide)).1.n 0 (by decide)) rfl rfl (dl1 (d := d) (by omega)) rfl rfl (Nat.le_of_ble_eq_true rfl) rfl rfl (Nat.zero_le _) (Nat.zero_le _) ?_
      refine aw_i2lN (B p) dX6_readsWord_39 rfl (by omega) ?_
      refine aw_laddN (27 * c) (B p) dX6_readsWord_40 rfl rfl ?_
      refine aw_ldc2 dX6_readsWord_41 kc_X6_71 ?_
      refine aw_lsub dX6_readsWord_44 ?_
      refine aw_toplE ev ?_
      refine aw_lstore_n [(2, .long (lN (27 * c + (B p - 96)))), (4, .int (nI i)), (1, .int (nI n)), (0, .ref 0)] dX6_readsWord_45 (Nat.le_of_ble_eq_true rfl) rfl ?_
      refine aw_iincN i 1 [(4, .int (nI (i + 1))), (2, .long (lN (27 * c + (B p - 96)))), (1, .int (nI n)), (0, .ref 0)] dX6_readsWord_46 1 rfl rfl rfl (Nat.le_of_ble_eq_true rfl) rfl ?_
      refine aw_goto 13 dX6_readsWord_49 (by decide) ?_
      exact q
    · rw [if_neg hc]
      refine aw_iload dX6_readsWord_13 0 rfl ?_
      refine aw_iload_n dX6_readsWord_15 2 rfl ?_
      refine aw_icmp_geN i n 52 dX6_readsWord_16 (by decide) rfl rfl (by omega) (by omega) (fun c1 => absurd c1 (by omega)) (fun c1 => ?_)
      refine aw_aload_n dX6_readsWord_19 3 rfl ?_
      refine aw_getI dX6_readsWord_20 fl_X6_283 ((hS.i 24 (nI p) (by decide)).1.s 0 (by decide)) ((hS.i 24 (nI p) (by decide)).1.n 0 (by decide)) ?_
      refine aw_topE hf1 ?_
      refine aw_if_ge 52 dX6_readsWord_23 (by decide) (fun c2 => absurd c2 (by decide)) (fun c2 => ?_)
      refine aw_ldc2 dX6_readsWord_26 kc_X6_69 ?_
      refine aw_lload_n dX6_readsWord_29 1 rfl ?_
      refine aw_lmulN 27 c dX6_readsWord_30 rfl rfl ?_
      refine aw_aload_n dX6_readsWord_31 3 rfl ?_
      refine aw_bipush (v := 97) dX6_readsWord_32 (by decide) ?_
      refine aw_bipush (v := 122) dX6_readsWord_34 (by decide) ?_
      refine aw_callVi [.int 97, .int 122] [.long (lN (27 * c))] (sp_p1f (d := d - 1) (by omega) 97 122 (hS.i 24 (nI p) (by decide)) (mI_stI_v _ _ _ _) hpl hf1 (by decide) (by decide) hc) dX6_readsWord_36 ml_X6_320 im_X6_part1 ((hS.i 24 (nI p) (by decide)).1.s 0 (by decide)) ((hS.i 24 (nI p) (by decide)).1.n 0 (by decide)) rfl rfl (dl1 (d := d) (by omega)) rfl rfl (Nat.le_of_ble_eq_true rfl) rfl rfl (Nat.zero_le _) (Nat.zero_le _) ?_
      refine aw_i2l dX6_readsWord_39 ?_
      refine aw_ladd dX6_readsWord_40 ?_
      refine aw_ldc2 dX6_readsWord_41 kc_X6_71 ?_
      refine aw_lsub dX6_readsWord_44 ?_
      refine aw_lstore_n [(2, .long (((lN (27 * c)) + (Int32.toInt64 (-1))) - 96)), (4, .int (nI i)), (1, .int (nI n)), (0, .ref 0)] dX6_readsWord_45 (Nat.le_of_ble_eq_true rfl) rfl ?_
      refine aw_iincN i 1 [(4, .int (nI (i + 1))), (2, .long (((lN (27 * c)) + (Int32.toInt64 (-1))) - 96)), (1, .int (nI n)), (0, .ref 0)] dX6_readsWord_46 1 rfl rfl rfl (Nat.le_of_ble_eq_true rfl) rfl ?_
      refine aw_goto 13 dX6_readsWord_49 (by decide) ?_
      refine aw_iload dX6_readsWord_13 0 rfl ?_
      refine aw_iload_n dX6_readsWord_15 2 rfl ?_
      refine aw_icmp_geN (i + 1) n 52 dX6_readsWord_16 (by decide) rfl rfl (by omega) (by omega) (fun c3 => ?_) (fun c3 => ?_)
      · refine aw_lload_n dX6_readsWord_52 1 rfl ?_
        refine aw_lret dX6_readsWord_53 rfl (Nat.zero_le _) (Nat.zero_le _) ?_
        exact ⟨⟨_, rfl⟩, FE_a (FE_f _ p)⟩
      · refine aw_aload_n dX6_readsWord_19 3 rfl ?_
        refine aw_getI dX6_readsWord_20 fl_X6_283 (((hS.i 24 (nI p) (by decide)).i 25 (nI p) (by decide)).1.s 0 (by decide)) (((hS.i 24 (nI p) (by decide)).i 25 (nI p) (by decide)).1.n 0 (by decide)) ?_
        refine aw_topE (mI_stI_v _ _ _ _) ?_
        refine aw_if_ge 52 dX6_readsWord_23 (by decide) (fun c4 => ?_) (fun c4 => absurd (Int32.not_lt.mp (nI_nn (by omega))) c4)
        refine aw_lload_n dX6_readsWord_52 1 rfl ?_
        refine aw_lret dX6_readsWord_53 rfl (Nat.zero_le _) (Nat.zero_le _) ?_
        exact ⟨⟨_, rfl⟩, FE_a (FE_f _ p)⟩
theorem sp_rwd {d : Nat} (hd : 2 ≤ d) {M : xM} {B : Nat → Nat} {L : Nat} {p : Nat} (hS : RfS M B L) (hp : mI M 0 24 = nI p) (hpl : p ≤ L) (hf0 : mI M 0 25 = -1) : Sp (fX6_readsWord d) [.ref 0] M (QL M (pWord B L p)) := by
  refine Sp.of pn_X6 (Nat.le_of_ble_eq_true rfl) (fun h => Bool.noConfusion h) ?_
  have hL2 := hS.2.1
  unfold pWord
  by_cases hc : p < L ∧ 1 ≤ B p ∧ B p ≤ 7
  · rw [if_pos hc]
    refine aw_aload_n dX6_readsWord_0 0 rfl ?_
    refine aw_iconst (v := 1) dX6_readsWord_1 (by decide) ?_
    refine aw_bipush (v := 7) dX6_readsWord_2 (by decide) ?_
    refine aw_callVi [.int 1, .int 7] [] (sp_p1k (d := d - 1) (by omega) 1 7 hS hp hpl hf0 (by decide) (by decide) hc) dX6_readsWord_4 ml_X6_320 im_X6_part1 (hS.1.s 0 (by decide)) (hS.1.n 0 (by decide)) rfl rfl (dl1 (d := d) (by omega)) rfl rfl (Nat.le_of_ble_eq_true rfl) rfl rfl (Nat.zero_le _) (Nat.zero_le _) ?_
    refine aw_istore_n [(1, .int (nI (B p))), (0, .ref 0)] dX6_readsWord_7 (Nat.le_of_ble_eq_true rfl) rfl ?_
    refine aw_lconst (v := 0) dX6_readsWord_8 (by decide) ?_
    refine aw_lstore_n [(2, .long 0), (1, .int (nI (B p))), (0, .ref 0)] dX6_readsWord_9 (Nat.le_of_ble_eq_true rfl) rfl ?_
    refine aw_iconst (v := 0) dX6_readsWord_10 (by decide) ?_
    refine aw_istore [(4, .int 0), (2, .long 0), (1, .int (nI (B p))), (0, .ref 0)] dX6_readsWord_11 (Nat.le_of_ble_eq_true rfl) rfl ?_
    exact lp_rwd hd hS hf0 hc.2.2 (B p) 0 0 (p + 1) (by omega) (by omega)
  · rw [if_neg hc]
    refine aw_aload_n dX6_readsWord_0 0 rfl ?_
    refine aw_iconst (v := 1) dX6_readsWord_1 (by decide) ?_
    refine aw_bipush (v := 7) dX6_readsWord_2 (by decide) ?_
    refine aw_callVi [.int 1, .int 7] [] (sp_p1f (d := d - 1) (by omega) 1 7 hS hp hpl hf0 (by decide) (by decide) hc) dX6_readsWord_4 ml_X6_320 im_X6_part1 (hS.1.s 0 (by decide)) (hS.1.n 0 (by decide)) rfl rfl (dl1 (d := d) (by omega)) rfl rfl (Nat.le_of_ble_eq_true rfl) rfl rfl (Nat.zero_le _) (Nat.zero_le _) ?_
    refine aw_istore_n [(1, .int (-1)), (0, .ref 0)] dX6_readsWord_7 (Nat.le_of_ble_eq_true rfl) rfl ?_
    refine aw_lconst (v := 0) dX6_readsWord_8 (by decide) ?_
    refine aw_lstore_n [(2, .long 0), (1, .int (-1)), (0, .ref 0)] dX6_readsWord_9 (Nat.le_of_ble_eq_true rfl) rfl ?_
    refine aw_iconst (v := 0) dX6_readsWord_10 (by decide) ?_
    refine aw_istore [(4, .int 0), (2, .long 0), (1, .int (-1)), (0, .ref 0)] dX6_readsWord_11 (Nat.le_of_ble_eq_true rfl) rfl ?_
    refine aw_iload dX6_readsWord_13 0 rfl ?_
    refine aw_iload_n dX6_readsWord_15 2 rfl ?_
    refine aw_icmp_ge 52 dX6_readsWord_16 (by decide) (fun c1 => ?_) (fun c1 => absurd (by decide) c1)
    refine aw_lload_n dX6_readsWord_52 1 rfl ?_
    refine aw_lret dX6_readsWord_53 rfl (Nat.zero_le _) (Nat.zero_le _) ?_
    exact ⟨⟨_, rfl⟩, FE_f M p⟩
