-- THE REFERENCE'S CONSTRUCTOR
def km0 : xM := nwM em0 (0, 5)
def km1 : xM := nwM km0 (1, 24)
def km2 : xM := stR km1 0 0 (some 1)
def km3 : xM := nwM km2 (1, 24)
def km4 : xM := stR km3 0 1 (some 2)
def km5 : xM := nwM km4 (2, 24)
def km6 : xM := stR km5 0 2 (some 3)
def km7 : xM := nwM km6 (1, 288)
def km8 : xM := stR km7 0 3 (some 4)
def km9 : xM := nwM km8 (2, 288)
def km10 : xM := stR km9 0 4 (some 5)
def km11 : xM := nwM km10 (1, 200)
def km12 : xM := stR km11 0 5 (some 6)
def km13 : xM := stI km12 0 10 (-1)
def km14 : xM := nwM km13 (1, 5)
def km15 : xM := stR km14 0 11 (some 7)
def km16 : xM := nwM km15 (1, 1500)
def km17 : xM := stR km16 0 12 (some 8)
def km18 : xM := nwM km17 (1, 1500)
def km19 : xM := stR km18 0 14 (some 9)
def km20 : xM := nwM km19 (1, 24)
def km21 : xM := stR km20 0 16 (some 10)
def km22 : xM := nwM km21 (1, 12)
def km23 : xM := stR km22 0 18 (some 11)
def km24 : xM := nwM km23 (1, 13)
def km25 : xM := stR km24 0 20 (some 12)
def km26 : xM := nwM km25 (1, 13)
def km27 : xM := stR km26 0 21 (some 13)
def km28 : xM := nwM km27 (1, 200)
def km29 : xM := stR km28 0 22 (some 14)
def km30 : xM := nwM km29 (1, 38)
def km31 : xM := stI km30 15 0 98
def km32 : xM := stI km31 15 1 111
def km33 : xM := stI km32 15 2 111
def km34 : xM := stI km33 15 3 108
def km35 : xM := stI km34 15 4 101
def km36 : xM := stI km35 15 5 97
def km37 : xM := stI km36 15 6 110
def km38 : xM := stI km37 15 7 98
def km39 : xM := stI km38 15 8 121
def km40 : xM := stI km39 15 9 116
def km41 : xM := stI km40 15 10 101
def km42 : xM := stI km41 15 11 99
def km43 : xM := stI km42 15 12 104
def km44 : xM := stI km43 15 13 97
def km45 : xM := stI km44 15 14 114
def km46 : xM := stI km45 15 15 115
def km47 : xM := stI km46 15 16 104
def km48 : xM := stI km47 15 17 111
def km49 : xM := stI km48 15 18 114
def km50 : xM := stI km49 15 19 116
def km51 : xM := stI km50 15 20 105
def km52 : xM := stI km51 15 21 110
def km53 : xM := stI km52 15 22 116
def km54 : xM := stI km53 15 23 108
def km55 : xM := stI km54 15 24 111
def km56 : xM := stI km55 15 25 110
def km57 : xM := stI km56 15 26 103
def km58 : xM := stI km57 15 27 102
def km59 : xM := stI km58 15 28 108
def km60 : xM := stI km59 15 29 111
def km61 : xM := stI km60 15 30 97
def km62 : xM := stI km61 15 31 116
def km63 : xM := stI km62 15 32 100
def km64 : xM := stI km63 15 33 111
def km65 : xM := stI km64 15 34 117
def km66 : xM := stI km65 15 35 98
def km67 : xM := stI km66 15 36 108
def km68 : xM := stI km67 15 37 101
def km69 : xM := stR km68 0 29 (some 15)
def km70 : xM := nwM km69 (1, 35)
def km71 : xM := stI km70 16 0 105
def km72 : xM := stI km71 16 1 110
def km73 : xM := stI km72 16 2 116
def km74 : xM := stI km73 16 3 115
def km75 : xM := stI km74 16 4 119
def km76 : xM := stI km75 16 5 111
def km77 : xM := stI km76 16 6 114
def km78 : xM := stI km77 16 7 100
def km79 : xM := stI km78 16 8 115
def km80 : xM := stI km79 16 9 98
def km81 : xM := stI km80 16 10 101
def km82 : xM := stI km81 16 11 97
def km83 : xM := stI km82 16 12 100
def km84 : xM := stI km83 16 13 115
def km85 : xM := stI km84 16 14 112
def km86 : xM := stI km85 16 15 101
def km87 : xM := stI km86 16 16 97
def km88 : xM := stI km87 16 17 114
def km89 : xM := stI km88 16 18 108
def km90 : xM := stI km89 16 19 115
def km91 : xM := stI km90 16 20 97
def km92 : xM := stI km91 16 21 110
def km93 : xM := stI km92 16 22 121
def km94 : xM := stI km93 16 23 114
def km95 : xM := stI km94 16 24 111
def km96 : xM := stI km95 16 25 119
def km97 : xM := stI km96 16 26 115
def km98 : xM := stI km97 16 27 98
def km99 : xM := stI km98 16 28 101
def km100 : xM := stI km99 16 29 97
def km101 : xM := stI km100 16 30 100
def km102 : xM := stI km101 16 31 119
def km103 : xM := stI km102 16 32 111
def km104 : xM := stI km103 16 33 114
def km105 : xM := stI km104 16 34 100
def km106 : xM := stR km105 0 30 (some 16)
def km107 : xM := nwM km106 (1, 16)
def km108 : xM := stI km107 17 0 7
def km109 : xM := stI km108 17 1 4
def km110 : xM := stI km109 17 2 4
def km111 : xM := stI km110 17 3 5
def km112 : xM := stI km111 17 4 3
def km113 : xM := stI km112 17 5 4
def km114 : xM := stI km113 17 6 5
def km115 : xM := stI km114 17 7 6
def km116 : xM := stI km115 17 8 4
def km117 : xM := stI km116 17 9 5
def km118 : xM := stI km117 17 10 5
def km119 : xM := stI km118 17 11 6
def km120 : xM := stI km119 17 12 3
def km121 : xM := stI km120 17 13 4
def km122 : xM := stI km121 17 14 4
def km123 : xM := stI km122 17 15 4
def km124 : xM := stR km123 0 31 (some 17)
def km125 : xM := nwM km124 (2, 16)
def km126 : xM := stR km125 0 32 (some 18)
def kk24 : Nat → xM
  | 0 => km126
  | i + 1 => stI (kk24 i) 1 i (-1)
theorem kk24_S : ∀ i, mS (kk24 i) = mS (kk24 0)
  | 0 => rfl
  | i + 1 => kk24_S i
theorem kk24_N : ∀ i, mN (kk24 i) = 19
  | 0 => by decide +kernel
  | i + 1 => kk24_N i
theorem kk24_R : ∀ i, mR (kk24 i) = mR (kk24 0)
  | 0 => rfl
  | i + 1 => kk24_R i
theorem kk24_s : ∀ a, a < 19 → mS (kk24 0) a = rShp a := by decide +kernel
theorem kk24_r : ∀ k, k < 33 → mR (kk24 0) 0 k = rRef k := by decide +kernel
-- letter t of the names; the memory behind t letters of all names
def ltr (t : Nat) : Int32 := if t < 38 then mI (kk24 24) 15 t else mI (kk24 24) 16 (t - 38)
def nsz (j : Nat) : Nat := [7, 4, 4, 5, 3, 4, 5, 6, 4, 5, 5, 6, 3, 4, 4, 4].getD j 0
def noff : Nat → Nat
  | 0 => 0
  | j + 1 => noff j + nsz j
def klt (M : xM) (j t : Nat) : Nat → xM
  | 0 => M
  | k + 1 => stL (klt M j t k) 18 j (27 * mL (klt M j t k) 18 j + (ltr (t + k)).toInt64 - 96)
def klo : Nat → xM
  | 0 => kk24 24
  | j + 1 => klt (klo j) j (noff j) (nsz j)
theorem klt_S (M : xM) (j t : Nat) : ∀ k, mS (klt M j t k) = mS M ∧ mR (klt M j t k) = mR M ∧ mN (klt M j t k) = mN M ∧ mI (klt M j t k) = mI M
  | 0 => ⟨rfl, rfl, rfl, rfl⟩
  | k + 1 => klt_S M j t k
theorem klo_S : ∀ j, mS (klo j) = mS (kk24 24) ∧ mR (klo j) = mR (kk24 24) ∧ mN (klo j) = mN (kk24 24) ∧ mI (klo j) = mI (kk24 24)
  | 0 => ⟨rfl, rfl, rfl, rfl⟩
  | j + 1 => by
    obtain ⟨h1, h2, h3, h4⟩ := klt_S (klo j) j (noff j) (nsz j)
    obtain ⟨g1, g2, g3, g4⟩ := klo_S j
    exact ⟨h1.trans g1, h2.trans g2, h3.trans g3, h4.trans g4⟩
theorem klo_T (j k : Nat) : mN (klt (klo j) j (noff j) k) = 19 ∧ (∀ a, a < 19 → mS (klt (klo j) j (noff j) k) a = rShp a) ∧ (∀ q, q < 33 → mR (klt (klo j) j (noff j) k) 0 q = rRef q) ∧ mI (klt (klo j) j (noff j) k) = mI (kk24 24) := by
  obtain ⟨h1, h2, h3, h4⟩ := klt_S (klo j) j (noff j) k
  obtain ⟨g1, g2, g3, g4⟩ := klo_S j
  refine ⟨h3.trans (g3.trans (kk24_N 24)), fun a ha => ?_, fun q hq => ?_, h4.trans g4⟩
  · rw [h1, g1, kk24_S 24]; exact kk24_s a ha
  · rw [h2, g2, kk24_R 24]; exact kk24_r q hq
theorem nsz_I : ∀ j, j < 16 → mI (kk24 24) 17 j = nI (nsz j) := by decide +kernel
theorem noff_b : ∀ j, j < 17 → noff j ≤ 73 ∧ nsz j ≤ 7 ∧ noff j + nsz j ≤ 73 := by decide +kernel
theorem sp_X6_init {d : Nat} (hd : 1 ≤ d) : Sp (fX6_init d) [.ref 0] km0 (dt none (klo 16)) := by
  refine Sp.of pn_X6 (Nat.le_of_ble_eq_true rfl) (fun _ => rfl) ?_
  have outer : ∀ n j : Nat, j + n = 16 → AW (fX6_init d) 686 [(2, .int (nI j)), (1, .int (nI (noff j))), (0, .ref 0)] [] (klo j) 18 4220 (dt none (klo 16)) := by
    intro n
    induction n with
    | zero =>
      intro j hj
      have hj2 : j = 16 := by omega
      subst hj2
      refine aw_iload_n dX6_init_686 0 rfl ?_
      refine aw_bipush (v := 16) dX6_init_687 (by decide) ?_
      refine aw_icmp_geN 16 16 765 dX6_init_689 (by decide) rfl rfl (by omega) (by omega) (fun c => ?_) (fun c => absurd (by omega) c)
      refine aw_ret dX6_init_765 rfl (Nat.le_of_ble_eq_true rfl) (Nat.le_of_ble_eq_true rfl) ?_
      exact ⟨rfl, rfl⟩
    | succ n ih =>
      intro j hj
      obtain ⟨b1, b2, b3⟩ := noff_b j (by omega)
      have inner : ∀ m k : Nat, k + m = nsz j → AW (fX6_init d) 694 [(3, .int (nI k)), (2, .int (nI j)), (1, .int (nI (noff j + k))), (0, .ref 0)] [] (klt (klo j) j (noff j) k) 18 4220 (dt none (klo 16)) := by
        intro m
        induction m with
        | zero =>
          intro k hk
          have hk2 : k = nsz j := by omega
          subst hk2
          obtain ⟨t1, t2, t3, t4⟩ := klo_T j (nsz j)
          refine aw_iload_n dX6_init_694 0 rfl ?_
          refine aw_aload_n dX6_init_695 3 rfl ?_
          refine aw_getR (b := 17) dX6_init_696 fl_X6_63 rfl (t2 0 (by omega)) (by omega) (t3 31 (by omega)) ?_
          refine aw_iload_n dX6_init_699 1 rfl ?_
          refine aw_ialdN j dX6_init_700 (t2 17 (by omega)) (by omega) rfl (by omega) (by omega) ?_
          refine aw_topE (show mI (klt (klo j) j (noff j) (nsz j)) 17 j = nI (nsz j) by rw [t4]; exact nsz_I j (by omega)) ?_
          refine aw_icmp_geN (nsz j) (nsz j) 759 dX6_init_701 (by decide) rfl rfl (by omega) (by omega) (fun c => ?_) (fun c => absurd (by omega) c)
          refine aw_iincN j 1 [(2, .int (nI (j + 1))), (3, .int (nI (nsz j))), (1, .int (nI (noff j + nsz j))), (0, .ref 0)] dX6_init_759 1 rfl rfl rfl (Nat.le_of_ble_eq_true rfl) rfl ?_
          refine aw_goto 686 dX6_init_762 (by decide) ?_
          refine aw_sub [0, 2, 3] rfl ?_
          exact ih (j + 1) (by omega)
        | succ m ihm =>
          intro k hk
          obtain ⟨t1, t2, t3, t4⟩ := klo_T j k
          refine aw_iload_n dX6_init_694 0 rfl ?_
          refine aw_aload_n dX6_init_695 3 rfl ?_
          refine aw_getR (b := 17) dX6_init_696 fl_X6_63 rfl (t2 0 (by omega)) (by omega) (t3 31 (by omega)) ?_
          refine aw_iload_n dX6_init_699 1 rfl ?_
          refine aw_ialdN j dX6_init_700 (t2 17 (by omega)) (by omega) rfl (by omega) (by omega) ?_
          refine aw_topE (show mI (klt (klo j) j (noff j) k) 17 j = nI (nsz j) by rw [t4]; exact nsz_I j (by omega)) ?_
          refine aw_icmp_geN k (nsz j) 759 dX6_init_701 (by decide) rfl rfl (by omega) (by omega) (fun c => absurd c (by omega)) (fun c => ?_)
          refine aw_aload_n dX6_init_704 3 rfl ?_
          refine aw_getR (b := 18) dX6_init_705 fl_X6_66 rfl (t2 0 (by omega)) (by omega) (t3 32 (by omega)) ?_
          refine aw_iload_n dX6_init_708 1 rfl ?_
          refine aw_ldc2 dX6_init_709 kc_X6_69 ?_
          refine aw_aload_n dX6_init_712 3 rfl ?_
          refine aw_getR (b := 18) dX6_init_713 fl_X6_66 rfl (t2 0 (by omega)) (by omega) (t3 32 (by omega)) ?_
          refine aw_iload_n dX6_init_716 1 rfl ?_
          refine aw_laldN j dX6_init_717 (t2 18 (by omega)) (by omega) rfl (by omega) (by omega) ?_
          refine aw_lmul dX6_init_718 ?_
          have fin : AW (fX6_init d) 743 [(3, .int (nI k)), (2, .int (nI j)), (1, .int (nI (noff j + k))), (0, .ref 0)] [.int (ltr (noff j + k)), .long (27 * mL (klt (klo j) j (noff j) k) 18 j), .int (nI j), .ref 18] (klt (klo j) j (noff j) k) 18 4220 (dt none (klo 16)) := by
            refine aw_i2l dX6_init_743 ?_
            refine aw_ladd dX6_init_744 ?_
            refine aw_ldc2 dX6_init_745 kc_X6_71 ?_
            refine aw_lsub dX6_init_748 ?_
            refine aw_lastN j dX6_init_749 (t2 18 (by omega)) (by omega) rfl (by omega) (by omega) ?_
            refine aw_iincN (noff j + k) 1 [(1, .int (nI (noff j + k + 1))), (3, .int (nI k)), (2, .int (nI j)), (0, .ref 0)] dX6_init_750 2 rfl rfl rfl (Nat.le_of_ble_eq_true rfl) rfl ?_
            refine aw_iincN k 1 [(3, .int (nI (k + 1))), (1, .int (nI (noff j + k + 1))), (2, .int (nI j)), (0, .ref 0)] dX6_init_753 1 rfl rfl rfl (Nat.le_of_ble_eq_true rfl) rfl ?_
            refine aw_goto 694 dX6_init_756 (by decide) ?_
            refine aw_sub [0, 2, 1, 3] rfl ?_
            exact ihm (k + 1) (by omega)
          refine aw_iload_n dX6_init_719 2 rfl ?_
          refine aw_bipush (v := 38) dX6_init_720 (by decide) ?_
          refine aw_icmp_geN (noff j + k) 38 734 dX6_init_722 (by decide) rfl rfl (by omega) (by omega) (fun c => ?_) (fun c => ?_)
          · refine aw_aload_n dX6_init_734 3 rfl ?_
            refine aw_getR (b := 16) dX6_init_735 fl_X6_60 rfl (t2 0 (by omega)) (by omega) (t3 30 (by omega)) ?_
            refine aw_iload_n dX6_init_738 2 rfl ?_
            refine aw_bipush (v := 38) dX6_init_739 (by decide) ?_
            refine aw_isubN (noff j + k) 38 dX6_init_741 rfl rfl c ?_
            refine aw_ialdN (noff j + k - 38) dX6_init_742 (t2 16 (by omega)) (by omega) rfl (by omega) (by omega) ?_
            refine aw_topE (show mI (klt (klo j) j (noff j) k) 16 (noff j + k - 38) = ltr (noff j + k) by rw [t4]; exact (if_neg (Nat.not_lt.mpr c)).symm) ?_
            exact fin
          · refine aw_aload_n dX6_init_725 3 rfl ?_
            refine aw_getR (b := 15) dX6_init_726 fl_X6_57 rfl (t2 0 (by omega)) (by omega) (t3 29 (by omega)) ?_
            refine aw_iload_n dX6_init_729 2 rfl ?_
            refine aw_ialdN (noff j + k) dX6_init_730 (t2 15 (by omega)) (by omega) rfl (by omega) (by omega) ?_
            refine aw_topE (show mI (klt (klo j) j (noff j) k) 15 (noff j + k) = ltr (noff j + k) by rw [t4]; exact (if_pos (Nat.not_le.mp c)).symm) ?_
            refine aw_goto 743 dX6_init_731 (by decide) ?_
            exact fin
      refine aw_iload_n dX6_init_686 0 rfl ?_
      refine aw_bipush (v := 16) dX6_init_687 (by decide) ?_
      refine aw_icmp_geN j 16 765 dX6_init_689 (by decide) rfl rfl (by omega) (by omega) (fun c => absurd c (by omega)) (fun c => ?_)
      refine aw_iconst (v := 0) dX6_init_692 (by decide) ?_
      refine aw_istore_n [(3, .int 0), (2, .int (nI j)), (1, .int (nI (noff j))), (0, .ref 0)] dX6_init_693 (Nat.le_of_ble_eq_true rfl) rfl ?_
      exact inner (nsz j) 0 (Nat.zero_add _)
  have loop : ∀ n i : Nat, i + n = 24 → AW (fX6_init d) 663 [(1, .int (nI i)), (0, .ref 0)] [] (kk24 i) 18 4220 (dt none (klo 16)) := by
    intro n
    induction n with
    | zero =>
      intro i hi
      have hi2 : i = 24 := by omega
      subst hi2
      refine aw_iload_n dX6_init_663 0 rfl ?_
      refine aw_bipush (v := 24) dX6_init_664 (by decide) ?_
      refine aw_icmp_geN 24 24 682 dX6_init_666 (by decide) rfl rfl (by omega) (by omega) (fun c => ?_) (fun c => absurd (by omega) c)
      refine aw_iconst (v := 0) dX6_init_682 (by decide) ?_
      refine aw_istore_n [(1, .int 0), (0, .ref 0)] dX6_init_683 (Nat.le_of_ble_eq_true rfl) rfl ?_
      refine aw_iconst (v := 0) dX6_init_684 (by decide) ?_
      refine aw_istore_n [(2, .int 0), (1, .int 0), (0, .ref 0)] dX6_init_685 (Nat.le_of_ble_eq_true rfl) rfl ?_
      exact outer 16 0 rfl
    | succ n ih =>
      intro i hi
      have hN := kk24_N i
      refine aw_iload_n dX6_init_663 0 rfl ?_
      refine aw_bipush (v := 24) dX6_init_664 (by decide) ?_
      refine aw_icmp_geN i 24 682 dX6_init_666 (by decide) rfl rfl (by omega) (by omega) (fun c => absurd c (by omega)) (fun c => ?_)
      refine aw_aload_n dX6_init_669 1 rfl ?_
      refine aw_getR (b := 1) dX6_init_670 fl_X6_7 rfl (by rw [kk24_S i]; exact kk24_s 0 (by omega)) (by omega) (by rw [kk24_R i]; exact kk24_r 0 (by omega)) ?_
      refine aw_iload_n dX6_init_673 0 rfl ?_
      refine aw_iconst (v := -1) dX6_init_674 (by decide) ?_
      refine aw_iastN i dX6_init_675 (n := 24) (by rw [kk24_S i]; exact kk24_s 1 (by omega)) (by omega) rfl (by omega) (by omega) ?_
      refine aw_iincN i 1 [(1, .int (nI (i + 1))), (0, .ref 0)] dX6_init_676 0 rfl rfl rfl (Nat.le_of_ble_eq_true rfl) rfl ?_
      refine aw_goto 663 dX6_init_679 (by decide) ?_
      exact ih (i + 1) (by omega)
  refine aw_aload_n dX6_init_0 0 rfl ?_
  refine aw_objInit dX6_init_1 oi_X6_1 oi_1 oi_2 hd (Nat.le_of_ble_eq_true rfl) ?_
  refine aw_aload_n dX6_init_4 0 rfl ?_
  refine aw_bipush (v := 24) dX6_init_5 (by decide) ?_
  refine aw_newI (N := 24) rfl dX6_init_7 ar_int (by decide) rfl (by decide) (Nat.le_of_ble_eq_true rfl) (Nat.le_of_ble_eq_true rfl) (by decide +kernel) ?_
  refine aw_eqm (M' := km1) rfl ?_
  refine aw_refn 1 (by decide +kernel) ?_
  refine aw_csn (cs' := 1) (ss' := 24) rfl rfl ?_
  refine aw_putR dX6_init_9 fl_X6_7 rfl (Or.inr ⟨rfl, rfl⟩) (by decide +kernel) (by decide +kernel) ?_
  refine aw_eqm (M' := km2) rfl ?_
  refine aw_aload_n dX6_init_12 0 rfl ?_
  refine aw_bipush (v := 24) dX6_init_13 (by decide) ?_
  refine aw_newI (N := 24) rfl dX6_init_15 ar_int (by decide) rfl (by decide) (Nat.le_of_ble_eq_true rfl) (Nat.le_of_ble_eq_true rfl) (by decide +kernel) ?_
  refine aw_eqm (M' := km3) rfl ?_
  refine aw_refn 2 (by decide +kernel) ?_
  refine aw_csn (cs' := 2) (ss' := 48) rfl rfl ?_
  refine aw_putR dX6_init_17 fl_X6_13 rfl (Or.inr ⟨rfl, rfl⟩) (by decide +kernel) (by decide +kernel) ?_
  refine aw_eqm (M' := km4) rfl ?_
  refine aw_aload_n dX6_init_20 0 rfl ?_
  refine aw_bipush (v := 24) dX6_init_21 (by decide) ?_
  refine aw_newL (N := 24) rfl dX6_init_23 ar_long (by decide) rfl (by decide) (Nat.le_of_ble_eq_true rfl) (Nat.le_of_ble_eq_true rfl) (by decide +kernel) ?_
  refine aw_eqm (M' := km5) rfl ?_
  refine aw_refn 3 (by decide +kernel) ?_
  refine aw_csn (cs' := 3) (ss' := 72) rfl rfl ?_
  refine aw_putR dX6_init_25 fl_X6_16 rfl (Or.inr ⟨rfl, rfl⟩) (by decide +kernel) (by decide +kernel) ?_
  refine aw_eqm (M' := km6) rfl ?_
  refine aw_aload_n dX6_init_28 0 rfl ?_
  refine aw_sipush (v := 288) dX6_init_29 (by decide) ?_
  refine aw_newI (N := 288) rfl dX6_init_32 ar_int (by decide) rfl (by decide) (Nat.le_of_ble_eq_true rfl) (Nat.le_of_ble_eq_true rfl) (by decide +kernel) ?_
  refine aw_eqm (M' := km7) rfl ?_
  refine aw_refn 4 (by decide +kernel) ?_
  refine aw_csn (cs' := 4) (ss' := 360) rfl rfl ?_
  refine aw_putR dX6_init_34 fl_X6_20 rfl (Or.inr ⟨rfl, rfl⟩) (by decide +kernel) (by decide +kernel) ?_
  refine aw_eqm (M' := km8) rfl ?_
  refine aw_aload_n dX6_init_37 0 rfl ?_
  refine aw_sipush (v := 288) dX6_init_38 (by decide) ?_
  refine aw_newL (N := 288) rfl dX6_init_41 ar_long (by decide) rfl (by decide) (Nat.le_of_ble_eq_true rfl) (Nat.le_of_ble_eq_true rfl) (by decide +kernel) ?_
  refine aw_eqm (M' := km9) rfl ?_
  refine aw_refn 5 (by decide +kernel) ?_
  refine aw_csn (cs' := 5) (ss' := 648) rfl rfl ?_
  refine aw_putR dX6_init_43 fl_X6_23 rfl (Or.inr ⟨rfl, rfl⟩) (by decide +kernel) (by decide +kernel) ?_
  refine aw_eqm (M' := km10) rfl ?_
  refine aw_aload_n dX6_init_46 0 rfl ?_
  refine aw_sipush (v := 200) dX6_init_47 (by decide) ?_
  refine aw_newI (N := 200) rfl dX6_init_50 ar_int (by decide) rfl (by decide) (Nat.le_of_ble_eq_true rfl) (Nat.le_of_ble_eq_true rfl) (by decide +kernel) ?_
  refine aw_eqm (M' := km11) rfl ?_
  refine aw_refn 6 (by decide +kernel) ?_
  refine aw_csn (cs' := 6) (ss' := 848) rfl rfl ?_
  refine aw_putR dX6_init_52 fl_X6_26 rfl (Or.inr ⟨rfl, rfl⟩) (by decide +kernel) (by decide +kernel) ?_
  refine aw_eqm (M' := km12) rfl ?_
  refine aw_aload_n dX6_init_55 0 rfl ?_
  refine aw_iconst (v := -1) dX6_init_56 (by decide) ?_
  refine aw_putI dX6_init_57 fl_X6_29 (Or.inl rfl) (by decide +kernel) (by decide +kernel) ?_
  refine aw_eqm (M' := km13) rfl ?_
  refine aw_aload_n dX6_init_60 0 rfl ?_
  refine aw_iconst (v := 5) dX6_init_61 (by decide) ?_
  refine aw_newI (N := 5) rfl dX6_init_62 ar_int (by decide) rfl (by decide) (Nat.le_of_ble_eq_true rfl) (Nat.le_of_ble_eq_true rfl) (by decide +kernel) ?_
  refine aw_eqm (M' := km14) rfl ?_
  refine aw_refn 7 (by decide +kernel) ?_
  refine aw_csn (cs' := 7) (ss' := 853) rfl rfl ?_
  refine aw_putR dX6_init_64 fl_X6_33 rfl (Or.inr ⟨rfl, rfl⟩) (by decide +kernel) (by decide +kernel) ?_
  refine aw_eqm (M' := km15) rfl ?_
  refine aw_aload_n dX6_init_67 0 rfl ?_
  refine aw_sipush (v := 1500) dX6_init_68 (by decide) ?_
  refine aw_newI (N := 1500) rfl dX6_init_71 ar_int (by decide) rfl (by decide) (Nat.le_of_ble_eq_true rfl) (Nat.le_of_ble_eq_true rfl) (by decide +kernel) ?_
  refine aw_eqm (M' := km16) rfl ?_
  refine aw_refn 8 (by decide +kernel) ?_
  refine aw_csn (cs' := 8) (ss' := 2353) rfl rfl ?_
  refine aw_putR dX6_init_73 fl_X6_36 rfl (Or.inr ⟨rfl, rfl⟩) (by decide +kernel) (by decide +kernel) ?_
  refine aw_eqm (M' := km17) rfl ?_
  refine aw_aload_n dX6_init_76 0 rfl ?_
  refine aw_sipush (v := 1500) dX6_init_77 (by decide) ?_
  refine aw_newI (N := 1500) rfl dX6_init_80 ar_int (by decide) rfl (by decide) (Nat.le_of_ble_eq_true rfl) (Nat.le_of_ble_eq_true rfl) (by decide +kernel) ?_
  refine aw_eqm (M' := km18) rfl ?_
  refine aw_refn 9 (by decide +kernel) ?_
  refine aw_csn (cs' := 9) (ss' := 3853) rfl rfl ?_
  refine aw_putR dX6_init_82 fl_X6_39 rfl (Or.inr ⟨rfl, rfl⟩) (by decide +kernel) (by decide +kernel) ?_
  refine aw_eqm (M' := km19) rfl ?_
  refine aw_aload_n dX6_init_85 0 rfl ?_
  refine aw_bipush (v := 24) dX6_init_86 (by decide) ?_
  refine aw_newI (N := 24) rfl dX6_init_88 ar_int (by decide) rfl (by decide) (Nat.le_of_ble_eq_true rfl) (Nat.le_of_ble_eq_true rfl) (by decide +kernel) ?_
  refine aw_eqm (M' := km20) rfl ?_
  refine aw_refn 10 (by decide +kernel) ?_
  refine aw_csn (cs' := 10) (ss' := 3877) rfl rfl ?_
  refine aw_putR dX6_init_90 fl_X6_42 rfl (Or.inr ⟨rfl, rfl⟩) (by decide +kernel) (by decide +kernel) ?_
  refine aw_eqm (M' := km21) rfl ?_
  refine aw_aload_n dX6_init_93 0 rfl ?_
  refine aw_bipush (v := 12) dX6_init_94 (by decide) ?_
  refine aw_newI (N := 12) rfl dX6_init_96 ar_int (by decide) rfl (by decide) (Nat.le_of_ble_eq_true rfl) (Nat.le_of_ble_eq_true rfl) (by decide +kernel) ?_
  refine aw_eqm (M' := km22) rfl ?_
  refine aw_refn 11 (by decide +kernel) ?_
  refine aw_csn (cs' := 11) (ss' := 3889) rfl rfl ?_
  refine aw_putR dX6_init_98 fl_X6_45 rfl (Or.inr ⟨rfl, rfl⟩) (by decide +kernel) (by decide +kernel) ?_
  refine aw_eqm (M' := km23) rfl ?_
  refine aw_aload_n dX6_init_101 0 rfl ?_
  refine aw_bipush (v := 13) dX6_init_102 (by decide) ?_
  refine aw_newI (N := 13) rfl dX6_init_104 ar_int (by decide) rfl (by decide) (Nat.le_of_ble_eq_true rfl) (Nat.le_of_ble_eq_true rfl) (by decide +kernel) ?_
  refine aw_eqm (M' := km24) rfl ?_
  refine aw_refn 12 (by decide +kernel) ?_
  refine aw_csn (cs' := 12) (ss' := 3902) rfl rfl ?_
  refine aw_putR dX6_init_106 fl_X6_48 rfl (Or.inr ⟨rfl, rfl⟩) (by decide +kernel) (by decide +kernel) ?_
  refine aw_eqm (M' := km25) rfl ?_
  refine aw_aload_n dX6_init_109 0 rfl ?_
  refine aw_bipush (v := 13) dX6_init_110 (by decide) ?_
  refine aw_newI (N := 13) rfl dX6_init_112 ar_int (by decide) rfl (by decide) (Nat.le_of_ble_eq_true rfl) (Nat.le_of_ble_eq_true rfl) (by decide +kernel) ?_
  refine aw_eqm (M' := km26) rfl ?_
  refine aw_refn 13 (by decide +kernel) ?_
  refine aw_csn (cs' := 13) (ss' := 3915) rfl rfl ?_
  refine aw_putR dX6_init_114 fl_X6_51 rfl (Or.inr ⟨rfl, rfl⟩) (by decide +kernel) (by decide +kernel) ?_
  refine aw_eqm (M' := km27) rfl ?_
  refine aw_aload_n dX6_init_117 0 rfl ?_
  refine aw_sipush (v := 200) dX6_init_118 (by decide) ?_
  refine aw_newI (N := 200) rfl dX6_init_121 ar_int (by decide) rfl (by decide) (Nat.le_of_ble_eq_true rfl) (Nat.le_of_ble_eq_true rfl) (by decide +kernel) ?_
  refine aw_eqm (M' := km28) rfl ?_
  refine aw_refn 14 (by decide +kernel) ?_
  refine aw_csn (cs' := 14) (ss' := 4115) rfl rfl ?_
  refine aw_putR dX6_init_123 fl_X6_54 rfl (Or.inr ⟨rfl, rfl⟩) (by decide +kernel) (by decide +kernel) ?_
  refine aw_eqm (M' := km29) rfl ?_
  refine aw_aload_n dX6_init_126 0 rfl ?_
  refine aw_bipush (v := 38) dX6_init_127 (by decide) ?_
  refine aw_newI (N := 38) rfl dX6_init_129 ar_int (by decide) rfl (by decide) (Nat.le_of_ble_eq_true rfl) (Nat.le_of_ble_eq_true rfl) (by decide +kernel) ?_
  refine aw_eqm (M' := km30) rfl ?_
  refine aw_refn 15 (by decide +kernel) ?_
  refine aw_csn (cs' := 15) (ss' := 4153) rfl rfl ?_
  refine aw_dup dX6_init_131 rfl ?_
  refine aw_iconst (v := 0) dX6_init_132 (by decide) ?_
  refine aw_bipush (v := 98) dX6_init_133 (by decide) ?_
  refine aw_iastN (n := 38) 0 dX6_init_135 (by decide +kernel) (by decide +kernel) rfl (by decide) (by decide) ?_
  refine aw_eqm (M' := km31) rfl ?_
  refine aw_dup dX6_init_136 rfl ?_
  refine aw_iconst (v := 1) dX6_init_137 (by decide) ?_
  refine aw_bipush (v := 111) dX6_init_138 (by decide) ?_
  refine aw_iastN (n := 38) 1 dX6_init_140 (by decide +kernel) (by decide +kernel) rfl (by decide) (by decide) ?_
  refine aw_eqm (M' := km32) rfl ?_
  refine aw_dup dX6_init_141 rfl ?_
  refine aw_iconst (v := 2) dX6_init_142 (by decide) ?_
  refine aw_bipush (v := 111) dX6_init_143 (by decide) ?_
  refine aw_iastN (n := 38) 2 dX6_init_145 (by decide +kernel) (by decide +kernel) rfl (by decide) (by decide) ?_
  refine aw_eqm (M' := km33) rfl ?_
  refine aw_dup dX6_init_146 rfl ?_
  refine aw_iconst (v := 3) dX6_init_147 (by decide) ?_
  refine aw_bipush (v := 108) dX6_init_148 (by decide) ?_
  refine aw_iastN (n := 38) 3 dX6_init_150 (by decide +kernel) (by decide +kernel) rfl (by decide) (by decide) ?_
  refine aw_eqm (M' := km34) rfl ?_
  refine aw_dup dX6_init_151 rfl ?_
  refine aw_iconst (v := 4) dX6_init_152 (by decide) ?_
  refine aw_bipush (v := 101) dX6_init_153 (by decide) ?_
  refine aw_iastN (n := 38) 4 dX6_init_155 (by decide +kernel) (by decide +kernel) rfl (by decide) (by decide) ?_
  refine aw_eqm (M' := km35) rfl ?_
  refine aw_dup dX6_init_156 rfl ?_
  refine aw_iconst (v := 5) dX6_init_157 (by decide) ?_
  refine aw_bipush (v := 97) dX6_init_158 (by decide) ?_
  refine aw_iastN (n := 38) 5 dX6_init_160 (by decide +kernel) (by decide +kernel) rfl (by decide) (by decide) ?_
  refine aw_eqm (M' := km36) rfl ?_
  refine aw_dup dX6_init_161 rfl ?_
  refine aw_bipush (v := 6) dX6_init_162 (by decide) ?_
  refine aw_bipush (v := 110) dX6_init_164 (by decide) ?_
  refine aw_iastN (n := 38) 6 dX6_init_166 (by decide +kernel) (by decide +kernel) rfl (by decide) (by decide) ?_
  refine aw_eqm (M' := km37) rfl ?_
  refine aw_dup dX6_init_167 rfl ?_
  refine aw_bipush (v := 7) dX6_init_168 (by decide) ?_
  refine aw_bipush (v := 98) dX6_init_170 (by decide) ?_
  refine aw_iastN (n := 38) 7 dX6_init_172 (by decide +kernel) (by decide +kernel) rfl (by decide) (by decide) ?_
  refine aw_eqm (M' := km38) rfl ?_
  refine aw_dup dX6_init_173 rfl ?_
  refine aw_bipush (v := 8) dX6_init_174 (by decide) ?_
  refine aw_bipush (v := 121) dX6_init_176 (by decide) ?_
  refine aw_iastN (n := 38) 8 dX6_init_178 (by decide +kernel) (by decide +kernel) rfl (by decide) (by decide) ?_
  refine aw_eqm (M' := km39) rfl ?_
  refine aw_dup dX6_init_179 rfl ?_
  refine aw_bipush (v := 9) dX6_init_180 (by decide) ?_
  refine aw_bipush (v := 116) dX6_init_182 (by decide) ?_
  refine aw_iastN (n := 38) 9 dX6_init_184 (by decide +kernel) (by decide +kernel) rfl (by decide) (by decide) ?_
  refine aw_eqm (M' := km40) rfl ?_
  refine aw_dup dX6_init_185 rfl ?_
  refine aw_bipush (v := 10) dX6_init_186 (by decide) ?_
  refine aw_bipush (v := 101) dX6_init_188 (by decide) ?_
  refine aw_iastN (n := 38) 10 dX6_init_190 (by decide +kernel) (by decide +kernel) rfl (by decide) (by decide) ?_
  refine aw_eqm (M' := km41) rfl ?_
  refine aw_dup dX6_init_191 rfl ?_
  refine aw_bipush (v := 11) dX6_init_192 (by decide) ?_
  refine aw_bipush (v := 99) dX6_init_194 (by decide) ?_
  refine aw_iastN (n := 38) 11 dX6_init_196 (by decide +kernel) (by decide +kernel) rfl (by decide) (by decide) ?_
  refine aw_eqm (M' := km42) rfl ?_
  refine aw_dup dX6_init_197 rfl ?_
  refine aw_bipush (v := 12) dX6_init_198 (by decide) ?_
  refine aw_bipush (v := 104) dX6_init_200 (by decide) ?_
  refine aw_iastN (n := 38) 12 dX6_init_202 (by decide +kernel) (by decide +kernel) rfl (by decide) (by decide) ?_
  refine aw_eqm (M' := km43) rfl ?_
  refine aw_dup dX6_init_203 rfl ?_
  refine aw_bipush (v := 13) dX6_init_204 (by decide) ?_
  refine aw_bipush (v := 97) dX6_init_206 (by decide) ?_
  refine aw_iastN (n := 38) 13 dX6_init_208 (by decide +kernel) (by decide +kernel) rfl (by decide) (by decide) ?_
  refine aw_eqm (M' := km44) rfl ?_
  refine aw_dup dX6_init_209 rfl ?_
  refine aw_bipush (v := 14) dX6_init_210 (by decide) ?_
  refine aw_bipush (v := 114) dX6_init_212 (by decide) ?_
  refine aw_iastN (n := 38) 14 dX6_init_214 (by decide +kernel) (by decide +kernel) rfl (by decide) (by decide) ?_
  refine aw_eqm (M' := km45) rfl ?_
  refine aw_dup dX6_init_215 rfl ?_
  refine aw_bipush (v := 15) dX6_init_216 (by decide) ?_
  refine aw_bipush (v := 115) dX6_init_218 (by decide) ?_
  refine aw_iastN (n := 38) 15 dX6_init_220 (by decide +kernel) (by decide +kernel) rfl (by decide) (by decide) ?_
  refine aw_eqm (M' := km46) rfl ?_
  refine aw_dup dX6_init_221 rfl ?_
  refine aw_bipush (v := 16) dX6_init_222 (by decide) ?_
  refine aw_bipush (v := 104) dX6_init_224 (by decide) ?_
  refine aw_iastN (n := 38) 16 dX6_init_226 (by decide +kernel) (by decide +kernel) rfl (by decide) (by decide) ?_
  refine aw_eqm (M' := km47) rfl ?_
  refine aw_dup dX6_init_227 rfl ?_
  refine aw_bipush (v := 17) dX6_init_228 (by decide) ?_
  refine aw_bipush (v := 111) dX6_init_230 (by decide) ?_
  refine aw_iastN (n := 38) 17 dX6_init_232 (by decide +kernel) (by decide +kernel) rfl (by decide) (by decide) ?_
  refine aw_eqm (M' := km48) rfl ?_
  refine aw_dup dX6_init_233 rfl ?_
  refine aw_bipush (v := 18) dX6_init_234 (by decide) ?_
  refine aw_bipush (v := 114) dX6_init_236 (by decide) ?_
  refine aw_iastN (n := 38) 18 dX6_init_238 (by decide +kernel) (by decide +kernel) rfl (by decide) (by decide) ?_
  refine aw_eqm (M' := km49) rfl ?_
  refine aw_dup dX6_init_239 rfl ?_
  refine aw_bipush (v := 19) dX6_init_240 (by decide) ?_
  refine aw_bipush (v := 116) dX6_init_242 (by decide) ?_
  refine aw_iastN (n := 38) 19 dX6_init_244 (by decide +kernel) (by decide +kernel) rfl (by decide) (by decide) ?_
  refine aw_eqm (M' := km50) rfl ?_
  refine aw_dup dX6_init_245 rfl ?_
  refine aw_bipush (v := 20) dX6_init_246 (by decide) ?_
  refine aw_bipush (v := 105) dX6_init_248 (by decide) ?_
  refine aw_iastN (n := 38) 20 dX6_init_250 (by decide +kernel) (by decide +kernel) rfl (by decide) (by decide) ?_
  refine aw_eqm (M' := km51) rfl ?_
  refine aw_dup dX6_init_251 rfl ?_
  refine aw_bipush (v := 21) dX6_init_252 (by decide) ?_
  refine aw_bipush (v := 110) dX6_init_254 (by decide) ?_
  refine aw_iastN (n := 38) 21 dX6_init_256 (by decide +kernel) (by decide +kernel) rfl (by decide) (by decide) ?_
  refine aw_eqm (M' := km52) rfl ?_
  refine aw_dup dX6_init_257 rfl ?_
  refine aw_bipush (v := 22) dX6_init_258 (by decide) ?_
  refine aw_bipush (v := 116) dX6_init_260 (by decide) ?_
  refine aw_iastN (n := 38) 22 dX6_init_262 (by decide +kernel) (by decide +kernel) rfl (by decide) (by decide) ?_
  refine aw_eqm (M' := km53) rfl ?_
  refine aw_dup dX6_init_263 rfl ?_
  refine aw_bipush (v := 23) dX6_init_264 (by decide) ?_
  refine aw_bipush (v := 108) dX6_init_266 (by decide) ?_
  refine aw_iastN (n := 38) 23 dX6_init_268 (by decide +kernel) (by decide +kernel) rfl (by decide) (by decide) ?_
  refine aw_eqm (M' := km54) rfl ?_
  refine aw_dup dX6_init_269 rfl ?_
  refine aw_bipush (v := 24) dX6_init_270 (by decide) ?_
  refine aw_bipush (v := 111) dX6_init_272 (by decide) ?_
  refine aw_iastN (n := 38) 24 dX6_init_274 (by decide +kernel) (by decide +kernel) rfl (by decide) (by decide) ?_
  refine aw_eqm (M' := km55) rfl ?_
  refine aw_dup dX6_init_275 rfl ?_
  refine aw_bipush (v := 25) dX6_init_276 (by decide) ?_
  refine aw_bipush (v := 110) dX6_init_278 (by decide) ?_
  refine aw_iastN (n := 38) 25 dX6_init_280 (by decide +kernel) (by decide +kernel) rfl (by decide) (by decide) ?_
  refine aw_eqm (M' := km56) rfl ?_
  refine aw_dup dX6_init_281 rfl ?_
  refine aw_bipush (v := 26) dX6_init_282 (by decide) ?_
  refine aw_bipush (v := 103) dX6_init_284 (by decide) ?_
  refine aw_iastN (n := 38) 26 dX6_init_286 (by decide +kernel) (by decide +kernel) rfl (by decide) (by decide) ?_
  refine aw_eqm (M' := km57) rfl ?_
  refine aw_dup dX6_init_287 rfl ?_
  refine aw_bipush (v := 27) dX6_init_288 (by decide) ?_
  refine aw_bipush (v := 102) dX6_init_290 (by decide) ?_
  refine aw_iastN (n := 38) 27 dX6_init_292 (by decide +kernel) (by decide +kernel) rfl (by decide) (by decide) ?_
  refine aw_eqm (M' := km58) rfl ?_
  refine aw_dup dX6_init_293 rfl ?_
  refine aw_bipush (v := 28) dX6_init_294 (by decide) ?_
  refine aw_bipush (v := 108) dX6_init_296 (by decide) ?_
  refine aw_iastN (n := 38) 28 dX6_init_298 (by decide +kernel) (by decide +kernel) rfl (by decide) (by decide) ?_
  refine aw_eqm (M' := km59) rfl ?_
  refine aw_dup dX6_init_299 rfl ?_
  refine aw_bipush (v := 29) dX6_init_300 (by decide) ?_
  refine aw_bipush (v := 111) dX6_init_302 (by decide) ?_
  refine aw_iastN (n := 38) 29 dX6_init_304 (by decide +kernel) (by decide +kernel) rfl (by decide) (by decide) ?_
  refine aw_eqm (M' := km60) rfl ?_
  refine aw_dup dX6_init_305 rfl ?_
  refine aw_bipush (v := 30) dX6_init_306 (by decide) ?_
  refine aw_bipush (v := 97) dX6_init_308 (by decide) ?_
  refine aw_iastN (n := 38) 30 dX6_init_310 (by decide +kernel) (by decide +kernel) rfl (by decide) (by decide) ?_
  refine aw_eqm (M' := km61) rfl ?_
  refine aw_dup dX6_init_311 rfl ?_
  refine aw_bipush (v := 31) dX6_init_312 (by decide) ?_
  refine aw_bipush (v := 116) dX6_init_314 (by decide) ?_
  refine aw_iastN (n := 38) 31 dX6_init_316 (by decide +kernel) (by decide +kernel) rfl (by decide) (by decide) ?_
  refine aw_eqm (M' := km62) rfl ?_
  refine aw_dup dX6_init_317 rfl ?_
  refine aw_bipush (v := 32) dX6_init_318 (by decide) ?_
  refine aw_bipush (v := 100) dX6_init_320 (by decide) ?_
  refine aw_iastN (n := 38) 32 dX6_init_322 (by decide +kernel) (by decide +kernel) rfl (by decide) (by decide) ?_
  refine aw_eqm (M' := km63) rfl ?_
  refine aw_dup dX6_init_323 rfl ?_
  refine aw_bipush (v := 33) dX6_init_324 (by decide) ?_
  refine aw_bipush (v := 111) dX6_init_326 (by decide) ?_
  refine aw_iastN (n := 38) 33 dX6_init_328 (by decide +kernel) (by decide +kernel) rfl (by decide) (by decide) ?_
  refine aw_eqm (M' := km64) rfl ?_
  refine aw_dup dX6_init_329 rfl ?_
  refine aw_bipush (v := 34) dX6_init_330 (by decide) ?_
  refine aw_bipush (v := 117) dX6_init_332 (by decide) ?_
  refine aw_iastN (n := 38) 34 dX6_init_334 (by decide +kernel) (by decide +kernel) rfl (by decide) (by decide) ?_
  refine aw_eqm (M' := km65) rfl ?_
  refine aw_dup dX6_init_335 rfl ?_
  refine aw_bipush (v := 35) dX6_init_336 (by decide) ?_
  refine aw_bipush (v := 98) dX6_init_338 (by decide) ?_
  refine aw_iastN (n := 38) 35 dX6_init_340 (by decide +kernel) (by decide +kernel) rfl (by decide) (by decide) ?_
  refine aw_eqm (M' := km66) rfl ?_
  refine aw_dup dX6_init_341 rfl ?_
  refine aw_bipush (v := 36) dX6_init_342 (by decide) ?_
  refine aw_bipush (v := 108) dX6_init_344 (by decide) ?_
  refine aw_iastN (n := 38) 36 dX6_init_346 (by decide +kernel) (by decide +kernel) rfl (by decide) (by decide) ?_
  refine aw_eqm (M' := km67) rfl ?_
  refine aw_dup dX6_init_347 rfl ?_
  refine aw_bipush (v := 37) dX6_init_348 (by decide) ?_
  refine aw_bipush (v := 101) dX6_init_350 (by decide) ?_
  refine aw_iastN (n := 38) 37 dX6_init_352 (by decide +kernel) (by decide +kernel) rfl (by decide) (by decide) ?_
  refine aw_eqm (M' := km68) rfl ?_
  refine aw_putR dX6_init_353 fl_X6_57 rfl (Or.inr ⟨rfl, rfl⟩) (by decide +kernel) (by decide +kernel) ?_
  refine aw_eqm (M' := km69) rfl ?_
  refine aw_aload_n dX6_init_356 0 rfl ?_
  refine aw_bipush (v := 35) dX6_init_357 (by decide) ?_
  refine aw_newI (N := 35) rfl dX6_init_359 ar_int (by decide) rfl (by decide) (Nat.le_of_ble_eq_true rfl) (Nat.le_of_ble_eq_true rfl) (by decide +kernel) ?_
  refine aw_eqm (M' := km70) rfl ?_
  refine aw_refn 16 (by decide +kernel) ?_
  refine aw_csn (cs' := 16) (ss' := 4188) rfl rfl ?_
  refine aw_dup dX6_init_361 rfl ?_
  refine aw_iconst (v := 0) dX6_init_362 (by decide) ?_
  refine aw_bipush (v := 105) dX6_init_363 (by decide) ?_
  refine aw_iastN (n := 35) 0 dX6_init_365 (by decide +kernel) (by decide +kernel) rfl (by decide) (by decide) ?_
  refine aw_eqm (M' := km71) rfl ?_
  refine aw_dup dX6_init_366 rfl ?_
  refine aw_iconst (v := 1) dX6_init_367 (by decide) ?_
  refine aw_bipush (v := 110) dX6_init_368 (by decide) ?_
  refine aw_iastN (n := 35) 1 dX6_init_370 (by decide +kernel) (by decide +kernel) rfl (by decide) (by decide) ?_
  refine aw_eqm (M' := km72) rfl ?_
  refine aw_dup dX6_init_371 rfl ?_
  refine aw_iconst (v := 2) dX6_init_372 (by decide) ?_
  refine aw_bipush (v := 116) dX6_init_373 (by decide) ?_
  refine aw_iastN (n := 35) 2 dX6_init_375 (by decide +kernel) (by decide +kernel) rfl (by decide) (by decide) ?_
  refine aw_eqm (M' := km73) rfl ?_
  refine aw_dup dX6_init_376 rfl ?_
  refine aw_iconst (v := 3) dX6_init_377 (by decide) ?_
  refine aw_bipush (v := 115) dX6_init_378 (by decide) ?_
  refine aw_iastN (n := 35) 3 dX6_init_380 (by decide +kernel) (by decide +kernel) rfl (by decide) (by decide) ?_
  refine aw_eqm (M' := km74) rfl ?_
  refine aw_dup dX6_init_381 rfl ?_
  refine aw_iconst (v := 4) dX6_init_382 (by decide) ?_
  refine aw_bipush (v := 119) dX6_init_383 (by decide) ?_
  refine aw_iastN (n := 35) 4 dX6_init_385 (by decide +kernel) (by decide +kernel) rfl (by decide) (by decide) ?_
  refine aw_eqm (M' := km75) rfl ?_
  refine aw_dup dX6_init_386 rfl ?_
  refine aw_iconst (v := 5) dX6_init_387 (by decide) ?_
  refine aw_bipush (v := 111) dX6_init_388 (by decide) ?_
  refine aw_iastN (n := 35) 5 dX6_init_390 (by decide +kernel) (by decide +kernel) rfl (by decide) (by decide) ?_
  refine aw_eqm (M' := km76) rfl ?_
  refine aw_dup dX6_init_391 rfl ?_
  refine aw_bipush (v := 6) dX6_init_392 (by decide) ?_
  refine aw_bipush (v := 114) dX6_init_394 (by decide) ?_
  refine aw_iastN (n := 35) 6 dX6_init_396 (by decide +kernel) (by decide +kernel) rfl (by decide) (by decide) ?_
  refine aw_eqm (M' := km77) rfl ?_
  refine aw_dup dX6_init_397 rfl ?_
  refine aw_bipush (v := 7) dX6_init_398 (by decide) ?_
  refine aw_bipush (v := 100) dX6_init_400 (by decide) ?_
  refine aw_iastN (n := 35) 7 dX6_init_402 (by decide +kernel) (by decide +kernel) rfl (by decide) (by decide) ?_
  refine aw_eqm (M' := km78) rfl ?_
  refine aw_dup dX6_init_403 rfl ?_
  refine aw_bipush (v := 8) dX6_init_404 (by decide) ?_
  refine aw_bipush (v := 115) dX6_init_406 (by decide) ?_
  refine aw_iastN (n := 35) 8 dX6_init_408 (by decide +kernel) (by decide +kernel) rfl (by decide) (by decide) ?_
  refine aw_eqm (M' := km79) rfl ?_
  refine aw_dup dX6_init_409 rfl ?_
  refine aw_bipush (v := 9) dX6_init_410 (by decide) ?_
  refine aw_bipush (v := 98) dX6_init_412 (by decide) ?_
  refine aw_iastN (n := 35) 9 dX6_init_414 (by decide +kernel) (by decide +kernel) rfl (by decide) (by decide) ?_
  refine aw_eqm (M' := km80) rfl ?_
  refine aw_dup dX6_init_415 rfl ?_
  refine aw_bipush (v := 10) dX6_init_416 (by decide) ?_
  refine aw_bipush (v := 101) dX6_init_418 (by decide) ?_
  refine aw_iastN (n := 35) 10 dX6_init_420 (by decide +kernel) (by decide +kernel) rfl (by decide) (by decide) ?_
  refine aw_eqm (M' := km81) rfl ?_
  refine aw_dup dX6_init_421 rfl ?_
  refine aw_bipush (v := 11) dX6_init_422 (by decide) ?_
  refine aw_bipush (v := 97) dX6_init_424 (by decide) ?_
  refine aw_iastN (n := 35) 11 dX6_init_426 (by decide +kernel) (by decide +kernel) rfl (by decide) (by decide) ?_
  refine aw_eqm (M' := km82) rfl ?_
  refine aw_dup dX6_init_427 rfl ?_
  refine aw_bipush (v := 12) dX6_init_428 (by decide) ?_
  refine aw_bipush (v := 100) dX6_init_430 (by decide) ?_
  refine aw_iastN (n := 35) 12 dX6_init_432 (by decide +kernel) (by decide +kernel) rfl (by decide) (by decide) ?_
  refine aw_eqm (M' := km83) rfl ?_
  refine aw_dup dX6_init_433 rfl ?_
  refine aw_bipush (v := 13) dX6_init_434 (by decide) ?_
  refine aw_bipush (v := 115) dX6_init_436 (by decide) ?_
  refine aw_iastN (n := 35) 13 dX6_init_438 (by decide +kernel) (by decide +kernel) rfl (by decide) (by decide) ?_
  refine aw_eqm (M' := km84) rfl ?_
  refine aw_dup dX6_init_439 rfl ?_
  refine aw_bipush (v := 14) dX6_init_440 (by decide) ?_
  refine aw_bipush (v := 112) dX6_init_442 (by decide) ?_
  refine aw_iastN (n := 35) 14 dX6_init_444 (by decide +kernel) (by decide +kernel) rfl (by decide) (by decide) ?_
  refine aw_eqm (M' := km85) rfl ?_
  refine aw_dup dX6_init_445 rfl ?_
  refine aw_bipush (v := 15) dX6_init_446 (by decide) ?_
  refine aw_bipush (v := 101) dX6_init_448 (by decide) ?_
  refine aw_iastN (n := 35) 15 dX6_init_450 (by decide +kernel) (by decide +kernel) rfl (by decide) (by decide) ?_
  refine aw_eqm (M' := km86) rfl ?_
  refine aw_dup dX6_init_451 rfl ?_
  refine aw_bipush (v := 16) dX6_init_452 (by decide) ?_
  refine aw_bipush (v := 97) dX6_init_454 (by decide) ?_
  refine aw_iastN (n := 35) 16 dX6_init_456 (by decide +kernel) (by decide +kernel) rfl (by decide) (by decide) ?_
  refine aw_eqm (M' := km87) rfl ?_
  refine aw_dup dX6_init_457 rfl ?_
  refine aw_bipush (v := 17) dX6_init_458 (by decide) ?_
  refine aw_bipush (v := 114) dX6_init_460 (by decide) ?_
  refine aw_iastN (n := 35) 17 dX6_init_462 (by decide +kernel) (by decide +kernel) rfl (by decide) (by decide) ?_
  refine aw_eqm (M' := km88) rfl ?_
  refine aw_dup dX6_init_463 rfl ?_
  refine aw_bipush (v := 18) dX6_init_464 (by decide) ?_
  refine aw_bipush (v := 108) dX6_init_466 (by decide) ?_
  refine aw_iastN (n := 35) 18 dX6_init_468 (by decide +kernel) (by decide +kernel) rfl (by decide) (by decide) ?_
  refine aw_eqm (M' := km89) rfl ?_
  refine aw_dup dX6_init_469 rfl ?_
  refine aw_bipush (v := 19) dX6_init_470 (by decide) ?_
  refine aw_bipush (v := 115) dX6_init_472 (by decide) ?_
  refine aw_iastN (n := 35) 19 dX6_init_474 (by decide +kernel) (by decide +kernel) rfl (by decide) (by decide) ?_
  refine aw_eqm (M' := km90) rfl ?_
  refine aw_dup dX6_init_475 rfl ?_
  refine aw_bipush (v := 20) dX6_init_476 (by decide) ?_
  refine aw_bipush (v := 97) dX6_init_478 (by decide) ?_
  refine aw_iastN (n := 35) 20 dX6_init_480 (by decide +kernel) (by decide +kernel) rfl (by decide) (by decide) ?_
  refine aw_eqm (M' := km91) rfl ?_
  refine aw_dup dX6_init_481 rfl ?_
  refine aw_bipush (v := 21) dX6_init_482 (by decide) ?_
  refine aw_bipush (v := 110) dX6_init_484 (by decide) ?_
  refine aw_iastN (n := 35) 21 dX6_init_486 (by decide +kernel) (by decide +kernel) rfl (by decide) (by decide) ?_
  refine aw_eqm (M' := km92) rfl ?_
  refine aw_dup dX6_init_487 rfl ?_
  refine aw_bipush (v := 22) dX6_init_488 (by decide) ?_
  refine aw_bipush (v := 121) dX6_init_490 (by decide) ?_
  refine aw_iastN (n := 35) 22 dX6_init_492 (by decide +kernel) (by decide +kernel) rfl (by decide) (by decide) ?_
  refine aw_eqm (M' := km93) rfl ?_
  refine aw_dup dX6_init_493 rfl ?_
  refine aw_bipush (v := 23) dX6_init_494 (by decide) ?_
  refine aw_bipush (v := 114) dX6_init_496 (by decide) ?_
  refine aw_iastN (n := 35) 23 dX6_init_498 (by decide +kernel) (by decide +kernel) rfl (by decide) (by decide) ?_
  refine aw_eqm (M' := km94) rfl ?_
  refine aw_dup dX6_init_499 rfl ?_
  refine aw_bipush (v := 24) dX6_init_500 (by decide) ?_
  refine aw_bipush (v := 111) dX6_init_502 (by decide) ?_
  refine aw_iastN (n := 35) 24 dX6_init_504 (by decide +kernel) (by decide +kernel) rfl (by decide) (by decide) ?_
  refine aw_eqm (M' := km95) rfl ?_
  refine aw_dup dX6_init_505 rfl ?_
  refine aw_bipush (v := 25) dX6_init_506 (by decide) ?_
  refine aw_bipush (v := 119) dX6_init_508 (by decide) ?_
  refine aw_iastN (n := 35) 25 dX6_init_510 (by decide +kernel) (by decide +kernel) rfl (by decide) (by decide) ?_
  refine aw_eqm (M' := km96) rfl ?_
  refine aw_dup dX6_init_511 rfl ?_
  refine aw_bipush (v := 26) dX6_init_512 (by decide) ?_
  refine aw_bipush (v := 115) dX6_init_514 (by decide) ?_
  refine aw_iastN (n := 35) 26 dX6_init_516 (by decide +kernel) (by decide +kernel) rfl (by decide) (by decide) ?_
  refine aw_eqm (M' := km97) rfl ?_
  refine aw_dup dX6_init_517 rfl ?_
  refine aw_bipush (v := 27) dX6_init_518 (by decide) ?_
  refine aw_bipush (v := 98) dX6_init_520 (by decide) ?_
  refine aw_iastN (n := 35) 27 dX6_init_522 (by decide +kernel) (by decide +kernel) rfl (by decide) (by decide) ?_
  refine aw_eqm (M' := km98) rfl ?_
  refine aw_dup dX6_init_523 rfl ?_
  refine aw_bipush (v := 28) dX6_init_524 (by decide) ?_
  refine aw_bipush (v := 101) dX6_init_526 (by decide) ?_
  refine aw_iastN (n := 35) 28 dX6_init_528 (by decide +kernel) (by decide +kernel) rfl (by decide) (by decide) ?_
  refine aw_eqm (M' := km99) rfl ?_
  refine aw_dup dX6_init_529 rfl ?_
  refine aw_bipush (v := 29) dX6_init_530 (by decide) ?_
  refine aw_bipush (v := 97) dX6_init_532 (by decide) ?_
  refine aw_iastN (n := 35) 29 dX6_init_534 (by decide +kernel) (by decide +kernel) rfl (by decide) (by decide) ?_
  refine aw_eqm (M' := km100) rfl ?_
  refine aw_dup dX6_init_535 rfl ?_
  refine aw_bipush (v := 30) dX6_init_536 (by decide) ?_
  refine aw_bipush (v := 100) dX6_init_538 (by decide) ?_
  refine aw_iastN (n := 35) 30 dX6_init_540 (by decide +kernel) (by decide +kernel) rfl (by decide) (by decide) ?_
  refine aw_eqm (M' := km101) rfl ?_
  refine aw_dup dX6_init_541 rfl ?_
  refine aw_bipush (v := 31) dX6_init_542 (by decide) ?_
  refine aw_bipush (v := 119) dX6_init_544 (by decide) ?_
  refine aw_iastN (n := 35) 31 dX6_init_546 (by decide +kernel) (by decide +kernel) rfl (by decide) (by decide) ?_
  refine aw_eqm (M' := km102) rfl ?_
  refine aw_dup dX6_init_547 rfl ?_
  refine aw_bipush (v := 32) dX6_init_548 (by decide) ?_
  refine aw_bipush (v := 111) dX6_init_550 (by decide) ?_
  refine aw_iastN (n := 35) 32 dX6_init_552 (by decide +kernel) (by decide +kernel) rfl (by decide) (by decide) ?_
  refine aw_eqm (M' := km103) rfl ?_
  refine aw_dup dX6_init_553 rfl ?_
  refine aw_bipush (v := 33) dX6_init_554 (by decide) ?_
  refine aw_bipush (v := 114) dX6_init_556 (by decide) ?_
  refine aw_iastN (n := 35) 33 dX6_init_558 (by decide +kernel) (by decide +kernel) rfl (by decide) (by decide) ?_
  refine aw_eqm (M' := km104) rfl ?_
  refine aw_dup dX6_init_559 rfl ?_
  refine aw_bipush (v := 34) dX6_init_560 (by decide) ?_
  refine aw_bipush (v := 100) dX6_init_562 (by decide) ?_
  refine aw_iastN (n := 35) 34 dX6_init_564 (by decide +kernel) (by decide +kernel) rfl (by decide) (by decide) ?_
  refine aw_eqm (M' := km105) rfl ?_
  refine aw_putR dX6_init_565 fl_X6_60 rfl (Or.inr ⟨rfl, rfl⟩) (by decide +kernel) (by decide +kernel) ?_
  refine aw_eqm (M' := km106) rfl ?_
  refine aw_aload_n dX6_init_568 0 rfl ?_
  refine aw_bipush (v := 16) dX6_init_569 (by decide) ?_
  refine aw_newI (N := 16) rfl dX6_init_571 ar_int (by decide) rfl (by decide) (Nat.le_of_ble_eq_true rfl) (Nat.le_of_ble_eq_true rfl) (by decide +kernel) ?_
  refine aw_eqm (M' := km107) rfl ?_
  refine aw_refn 17 (by decide +kernel) ?_
  refine aw_csn (cs' := 17) (ss' := 4204) rfl rfl ?_
  refine aw_dup dX6_init_573 rfl ?_
  refine aw_iconst (v := 0) dX6_init_574 (by decide) ?_
  refine aw_bipush (v := 7) dX6_init_575 (by decide) ?_
  refine aw_iastN (n := 16) 0 dX6_init_577 (by decide +kernel) (by decide +kernel) rfl (by decide) (by decide) ?_
  refine aw_eqm (M' := km108) rfl ?_
  refine aw_dup dX6_init_578 rfl ?_
  refine aw_iconst (v := 1) dX6_init_579 (by decide) ?_
  refine aw_iconst (v := 4) dX6_init_580 (by decide) ?_
  refine aw_iastN (n := 16) 1 dX6_init_581 (by decide +kernel) (by decide +kernel) rfl (by decide) (by decide) ?_
  refine aw_eqm (M' := km109) rfl ?_
  refine aw_dup dX6_init_582 rfl ?_
  refine aw_iconst (v := 2) dX6_init_583 (by decide) ?_
  refine aw_iconst (v := 4) dX6_init_584 (by decide) ?_
  refine aw_iastN (n := 16) 2 dX6_init_585 (by decide +kernel) (by decide +kernel) rfl (by decide) (by decide) ?_
  refine aw_eqm (M' := km110) rfl ?_
  refine aw_dup dX6_init_586 rfl ?_
  refine aw_iconst (v := 3) dX6_init_587 (by decide) ?_
  refine aw_iconst (v := 5) dX6_init_588 (by decide) ?_
  refine aw_iastN (n := 16) 3 dX6_init_589 (by decide +kernel) (by decide +kernel) rfl (by decide) (by decide) ?_
  refine aw_eqm (M' := km111) rfl ?_
  refine aw_dup dX6_init_590 rfl ?_
  refine aw_iconst (v := 4) dX6_init_591 (by decide) ?_
  refine aw_iconst (v := 3) dX6_init_592 (by decide) ?_
  refine aw_iastN (n := 16) 4 dX6_init_593 (by decide +kernel) (by decide +kernel) rfl (by decide) (by decide) ?_
  refine aw_eqm (M' := km112) rfl ?_
  refine aw_dup dX6_init_594 rfl ?_
  refine aw_iconst (v := 5) dX6_init_595 (by decide) ?_
  refine aw_iconst (v := 4) dX6_init_596 (by decide) ?_
  refine aw_iastN (n := 16) 5 dX6_init_597 (by decide +kernel) (by decide +kernel) rfl (by decide) (by decide) ?_
  refine aw_eqm (M' := km113) rfl ?_
  refine aw_dup dX6_init_598 rfl ?_
  refine aw_bipush (v := 6) dX6_init_599 (by decide) ?_
  refine aw_iconst (v := 5) dX6_init_601 (by decide) ?_
  refine aw_iastN (n := 16) 6 dX6_init_602 (by decide +kernel) (by decide +kernel) rfl (by decide) (by decide) ?_
  refine aw_eqm (M' := km114) rfl ?_
  refine aw_dup dX6_init_603 rfl ?_
  refine aw_bipush (v := 7) dX6_init_604 (by decide) ?_
  refine aw_bipush (v := 6) dX6_init_606 (by decide) ?_
  refine aw_iastN (n := 16) 7 dX6_init_608 (by decide +kernel) (by decide +kernel) rfl (by decide) (by decide) ?_
  refine aw_eqm (M' := km115) rfl ?_
  refine aw_dup dX6_init_609 rfl ?_
  refine aw_bipush (v := 8) dX6_init_610 (by decide) ?_
  refine aw_iconst (v := 4) dX6_init_612 (by decide) ?_
  refine aw_iastN (n := 16) 8 dX6_init_613 (by decide +kernel) (by decide +kernel) rfl (by decide) (by decide) ?_
  refine aw_eqm (M' := km116) rfl ?_
  refine aw_dup dX6_init_614 rfl ?_
  refine aw_bipush (v := 9) dX6_init_615 (by decide) ?_
  refine aw_iconst (v := 5) dX6_init_617 (by decide) ?_
  refine aw_iastN (n := 16) 9 dX6_init_618 (by decide +kernel) (by decide +kernel) rfl (by decide) (by decide) ?_
  refine aw_eqm (M' := km117) rfl ?_
  refine aw_dup dX6_init_619 rfl ?_
  refine aw_bipush (v := 10) dX6_init_620 (by decide) ?_
  refine aw_iconst (v := 5) dX6_init_622 (by decide) ?_
  refine aw_iastN (n := 16) 10 dX6_init_623 (by decide +kernel) (by decide +kernel) rfl (by decide) (by decide) ?_
  refine aw_eqm (M' := km118) rfl ?_
  refine aw_dup dX6_init_624 rfl ?_
  refine aw_bipush (v := 11) dX6_init_625 (by decide) ?_
  refine aw_bipush (v := 6) dX6_init_627 (by decide) ?_
  refine aw_iastN (n := 16) 11 dX6_init_629 (by decide +kernel) (by decide +kernel) rfl (by decide) (by decide) ?_
  refine aw_eqm (M' := km119) rfl ?_
  refine aw_dup dX6_init_630 rfl ?_
  refine aw_bipush (v := 12) dX6_init_631 (by decide) ?_
  refine aw_iconst (v := 3) dX6_init_633 (by decide) ?_
  refine aw_iastN (n := 16) 12 dX6_init_634 (by decide +kernel) (by decide +kernel) rfl (by decide) (by decide) ?_
  refine aw_eqm (M' := km120) rfl ?_
  refine aw_dup dX6_init_635 rfl ?_
  refine aw_bipush (v := 13) dX6_init_636 (by decide) ?_
  refine aw_iconst (v := 4) dX6_init_638 (by decide) ?_
  refine aw_iastN (n := 16) 13 dX6_init_639 (by decide +kernel) (by decide +kernel) rfl (by decide) (by decide) ?_
  refine aw_eqm (M' := km121) rfl ?_
  refine aw_dup dX6_init_640 rfl ?_
  refine aw_bipush (v := 14) dX6_init_641 (by decide) ?_
  refine aw_iconst (v := 4) dX6_init_643 (by decide) ?_
  refine aw_iastN (n := 16) 14 dX6_init_644 (by decide +kernel) (by decide +kernel) rfl (by decide) (by decide) ?_
  refine aw_eqm (M' := km122) rfl ?_
  refine aw_dup dX6_init_645 rfl ?_
  refine aw_bipush (v := 15) dX6_init_646 (by decide) ?_
  refine aw_iconst (v := 4) dX6_init_648 (by decide) ?_
  refine aw_iastN (n := 16) 15 dX6_init_649 (by decide +kernel) (by decide +kernel) rfl (by decide) (by decide) ?_
  refine aw_eqm (M' := km123) rfl ?_
  refine aw_putR dX6_init_650 fl_X6_63 rfl (Or.inr ⟨rfl, rfl⟩) (by decide +kernel) (by decide +kernel) ?_
  refine aw_eqm (M' := km124) rfl ?_
  refine aw_aload_n dX6_init_653 0 rfl ?_
  refine aw_bipush (v := 16) dX6_init_654 (by decide) ?_
  refine aw_newL (N := 16) rfl dX6_init_656 ar_long (by decide) rfl (by decide) (Nat.le_of_ble_eq_true rfl) (Nat.le_of_ble_eq_true rfl) (by decide +kernel) ?_
  refine aw_eqm (M' := km125) rfl ?_
  refine aw_refn 18 (by decide +kernel) ?_
  refine aw_csn (cs' := 18) (ss' := 4220) rfl rfl ?_
  refine aw_putR dX6_init_658 fl_X6_66 rfl (Or.inr ⟨rfl, rfl⟩) (by decide +kernel) (by decide +kernel) ?_
  refine aw_eqm (M' := km126) rfl ?_
  refine aw_iconst (v := 0) dX6_init_661 (by decide) ?_
  refine aw_istore_n [(1, .int 0), (0, .ref 0)] dX6_init_662 (Nat.le_of_ble_eq_true rfl) rfl ?_
  exact loop 24 0 rfl
