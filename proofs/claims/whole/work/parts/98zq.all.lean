-- THE REFERENCE WRITES AN ITEM: contract
def la0M (M : xM) : xM := stI (stI (stI M 0 13 0) 0 17 0) 0 19 0
def laM (M : xM) : xM := flI (la0M M) 10 0 24 (fun _ => -1)
theorem sT_laM (M : xM) : sT M (laM M) := ⟨rfl, rfl, rfl⟩
theorem laM_I (M : xM) {x : Nat} (h1 : x ≠ 0) (h2 : x ≠ 10) : mI (laM M) x = mI M x := by
  unfold laM la0M
  rw [mI_flI_ne _ h2, mI_stI_c _ _ _ h1, mI_stI_c _ _ _ h1, mI_stI_c _ _ _ h1]
theorem laM_0 (M : xM) (k : Nat) : mI (laM M) 0 k = if k = 13 ∨ k = 17 ∨ k = 19 then 0 else mI M 0 k := by
  unfold laM la0M
  rw [mI_flI_ne _ (show (0 : Nat) ≠ 10 by decide)]
  by_cases c1 : k = 19
  · subst c1; exact mI_stI_v _ _ _ _
  · rw [mI_stI_o _ _ _ _ c1]
    by_cases c2 : k = 17
    · subst c2; exact mI_stI_v _ _ _ _
    · rw [mI_stI_o _ _ _ _ c2]
      by_cases c3 : k = 13
      · subst c3; exact mI_stI_v _ _ _ _
      · rw [mI_stI_o _ _ _ _ c3, if_neg (by omega)]
theorem laM_n (M : xM) : emM (laM M) 0 13 8 [] = laM M := emM_0 ((laM_0 M 13).trans rfl)
theorem LR_0 (M : xM) {o : Nat} (ho : o ≤ 12) : LR M o [] [] (laM M) := by
  refine ⟨sT_laM M, rfl, fun x a b c d e f => laM_I M a c, fun k a b c => by rw [laM_0, if_neg (by omega)], (laM_0 M 17).trans rfl, fun t ht => ?_, fun i hi => absurd hi (Nat.not_lt_zero _), (laM_0 M 19).trans rfl, fun i hi => absurd hi (Nat.not_lt_zero _)⟩
  rw [if_neg List.not_mem_nil]
  have := mI_flI_at (la0M M) (a := 10) (lo := 0) (n := 24) (j := o + t) (g := fun _ => -1) (by omega)
  rw [Nat.zero_add] at this
  exact this
theorem lp_la0 {d : Nat} {M : xM} {T m : Nat} (hT : TR M) {post : Option Value → xM → Prop} (hk : AW (fX6_laysAll d) 36 [(3, .int (nI 24)), (0, .ref 0), (1, .int (nI T)), (2, .int (nI m))] [] (flI M 10 0 24 (fun _ => -1)) 0 0 post) : ∀ n i, i + n = 24 → AW (fX6_laysAll d) 17 [(3, .int (nI i)), (0, .ref 0), (1, .int (nI T)), (2, .int (nI m))] [] (flI M 10 0 i (fun _ => -1)) 0 0 post := by
  intro n
  induction n with
  | zero =>
    intro i hi
    obtain rfl : i = 24 := by omega
    refine aw_iload_n dX6_laysAll_17 0 rfl ?_
    refine aw_bipush (v := 24) dX6_laysAll_18 (by decide) ?_
    refine aw_icmp_geN 24 24 36 dX6_laysAll_20 (by decide) rfl rfl (by omega) (by omega) (fun c1 => ?_) (fun c1 => absurd (by omega) c1)
    exact hk
  | succ n ih =>
    intro i hi
    have g := ih (i + 1) (by omega)
    rw [← flI_s M 10 0 i (fun _ => -1) (v := -1) rfl, Nat.zero_add] at g
    refine aw_iload_n dX6_laysAll_17 0 rfl ?_
    refine aw_bipush (v := 24) dX6_laysAll_18 (by decide) ?_
    refine aw_icmp_geN i 24 36 dX6_laysAll_20 (by decide) rfl rfl (by omega) (by omega) (fun c1 => absurd c1 (by omega)) (fun c1 => ?_)
    refine aw_aload_n dX6_laysAll_23 1 rfl ?_
    refine aw_getR (b := 10) dX6_laysAll_24 fl_X6_42 rfl (((sT.flI M 10 0 i (fun _ => -1)).TR hT).s 0 (by decide)) (((sT.flI M 10 0 i (fun _ => -1)).TR hT).n 0 (by decide)) (((sT.flI M 10 0 i (fun _ => -1)).TR hT).r 16) ?_
    refine aw_iload_n dX6_laysAll_27 0 rfl ?_
    refine aw_iconst (v := -1) dX6_laysAll_28 (by decide) ?_
    refine aw_iastN i dX6_laysAll_29 (((sT.flI M 10 0 i (fun _ => -1)).TR hT).s 10 (by decide)) (((sT.flI M 10 0 i (fun _ => -1)).TR hT).n 10 (by decide)) rfl (by omega) (by first | decide | omega) ?_
    refine aw_iincN i 1 [(3, .int (nI (i + 1))), (0, .ref 0), (1, .int (nI T)), (2, .int (nI m))] dX6_laysAll_30 0 rfl rfl rfl (Nat.le_of_ble_eq_true rfl) rfl ?_
    refine aw_goto 17 dX6_laysAll_33 (by decide) ?_
    exact g
theorem la_w {d : Nat} (hd : 5 ≤ d) {M : xM} {T m c : Nat} {post : Option Value → xM → Prop} (hT : TR M) (hTl : T < 24) (hk : mI M 1 T = nI 15) (ho : mL M 3 T = lN c) (hc0 : 0 < c) (hc : c < 27 ^ 7) (k : AW (fX6_laysAll d) 97 [(0, .ref 0), (1, .int (nI T)), (2, .int (nI m))] [] (emM M 0 13 8 ([] ++ elB 8 (lN c))) 0 0 post) : AW (fX6_laysAll d) 36 [(3, .int (nI 24)), (0, .ref 0), (1, .int (nI T)), (2, .int (nI m))] [] (emM M 0 13 8 ([])) 0 0 post := by
  refine aw_aload_n dX6_laysAll_36 1 rfl ?_
  refine aw_getR (b := 1) dX6_laysAll_37 fl_X6_7 rfl (((sT_emM M 0 13 8 ([])).TR hT).s 0 (by decide)) (((sT_emM M 0 13 8 ([])).TR hT).n 0 (by decide)) (((sT_emM M 0 13 8 ([])).TR hT).r 0) ?_
  refine aw_iload_n dX6_laysAll_40 2 rfl ?_
  refine aw_ialdN T dX6_laysAll_41 (((sT_emM M 0 13 8 ([])).TR hT).s 1 (by decide)) (((sT_emM M 0 13 8 ([])).TR hT).n 1 (by decide)) rfl (by omega) (by first | decide | omega) ?_
  refine aw_topE ((congrFun (emM_I M ([]) (show (1 : Nat) ≠ 0 by decide) (show (1 : Nat) ≠ 8 by decide)) T).trans hk) ?_
  refine aw_bipush (v := 15) dX6_laysAll_42 (by decide) ?_
  refine aw_icmp_neN 15 15 60 dX6_laysAll_44 (by decide) rfl rfl (by omega) (by omega) (fun c1 => absurd rfl c1) (fun c1 => ?_)
  refine aw_aload_n dX6_laysAll_47 1 rfl ?_
  refine aw_aload_n dX6_laysAll_48 1 rfl ?_
  refine aw_getR (b := 3) dX6_laysAll_49 fl_X6_16 rfl (((sT_emM M 0 13 8 ([])).TR hT).s 0 (by decide)) (((sT_emM M 0 13 8 ([])).TR hT).n 0 (by decide)) (((sT_emM M 0 13 8 ([])).TR hT).r 2) ?_
  refine aw_iload_n dX6_laysAll_52 2 rfl ?_
  refine aw_laldN T dX6_laysAll_53 (((sT_emM M 0 13 8 ([])).TR hT).s 3 (by decide)) (((sT_emM M 0 13 8 ([])).TR hT).n 3 (by decide)) rfl (by omega) (by first | decide | omega) ?_
  refine aw_toplE ho ?_
  refine aw_callVv [.long (lN c)] [] (sp_lwd (d := d - 1) (by omega) (l := []) c hT hc0 hc (by decide)) dX6_laysAll_54 ml_X6_270 im_X6_laysWord (((sT_emM M 0 13 8 ([])).TR hT).s 0 (by decide)) (((sT_emM M 0 13 8 ([])).TR hT).n 0 (by decide)) rfl rfl (dl1 (d := d) (by omega)) rfl rfl (Nat.le_of_ble_eq_true rfl) rfl rfl (Nat.zero_le _) (Nat.zero_le _) ?_
  refine aw_goto 97 dX6_laysAll_57 (by decide) ?_
  refine aw_sub [1, 2, 3] rfl ?_
  exact k
theorem la_b {d : Nat} (hd : 5 ≤ d) {M : xM} {T m : Nat} {v : Int64} {post : Option Value → xM → Prop} (hT : TR M) (hTl : T < 24) (hk : mI M 1 T = nI 14) (ho : mL M 3 T = v) (k : AW (fX6_laysAll d) 97 [(0, .ref 0), (1, .int (nI T)), (2, .int (nI m))] [] (emM M 0 13 8 ([] ++ [9] ++ [v.toInt32])) 0 0 post) : AW (fX6_laysAll d) 36 [(3, .int (nI 24)), (0, .ref 0), (1, .int (nI T)), (2, .int (nI m))] [] (emM M 0 13 8 ([])) 0 0 post := by
  refine aw_aload_n dX6_laysAll_36 1 rfl ?_
  refine aw_getR (b := 1) dX6_laysAll_37 fl_X6_7 rfl (((sT_emM M 0 13 8 ([])).TR hT).s 0 (by decide)) (((sT_emM M 0 13 8 ([])).TR hT).n 0 (by decide)) (((sT_emM M 0 13 8 ([])).TR hT).r 0) ?_
  refine aw_iload_n dX6_laysAll_40 2 rfl ?_
  refine aw_ialdN T dX6_laysAll_41 (((sT_emM M 0 13 8 ([])).TR hT).s 1 (by decide)) (((sT_emM M 0 13 8 ([])).TR hT).n 1 (by decide)) rfl (by omega) (by first | decide | omega) ?_
  refine aw_topE ((congrFun (emM_I M ([]) (show (1 : Nat) ≠ 0 by decide) (show (1 : Nat) ≠ 8 by decide)) T).trans hk) ?_
  refine aw_bipush (v := 15) dX6_laysAll_42 (by decide) ?_
  refine aw_icmp_neN 14 15 60 dX6_laysAll_44 (by decide) rfl rfl (by omega) (by omega) (fun c1 => ?_) (fun c1 => absurd c1 (by decide))
  refine aw_aload_n dX6_laysAll_60 1 rfl ?_
  refine aw_getR (b := 1) dX6_laysAll_61 fl_X6_7 rfl (((sT_emM M 0 13 8 ([])).TR hT).s 0 (by decide)) (((sT_emM M 0 13 8 ([])).TR hT).n 0 (by decide)) (((sT_emM M 0 13 8 ([])).TR hT).r 0) ?_
  refine aw_iload_n dX6_laysAll_64 2 rfl ?_
  refine aw_ialdN T dX6_laysAll_65 (((sT_emM M 0 13 8 ([])).TR hT).s 1 (by decide)) (((sT_emM M 0 13 8 ([])).TR hT).n 1 (by decide)) rfl (by omega) (by first | decide | omega) ?_
  refine aw_topE ((congrFun (emM_I M ([]) (show (1 : Nat) ≠ 0 by decide) (show (1 : Nat) ≠ 8 by decide)) T).trans hk) ?_
  refine aw_bipush (v := 14) dX6_laysAll_66 (by decide) ?_
  refine aw_icmp_neN 14 14 91 dX6_laysAll_68 (by decide) rfl rfl (by omega) (by omega) (fun c2 => absurd rfl c2) (fun c2 => ?_)
  refine aw_aload_n dX6_laysAll_71 1 rfl ?_
  refine aw_bipush (v := 9) dX6_laysAll_72 (by decide) ?_
  refine aw_callVv [.int 9] [] (sp_ls (d := d - 1) (by omega) (l := []) 9 hT (by decide)) dX6_laysAll_74 ml_X6_240 im_X6_lays (((sT_emM M 0 13 8 ([])).TR hT).s 0 (by decide)) (((sT_emM M 0 13 8 ([])).TR hT).n 0 (by decide)) rfl rfl (dl1 (d := d) (by omega)) rfl rfl (Nat.le_of_ble_eq_true rfl) rfl rfl (Nat.zero_le _) (Nat.zero_le _) ?_
  refine aw_aload_n dX6_laysAll_77 1 rfl ?_
  refine aw_aload_n dX6_laysAll_78 1 rfl ?_
  refine aw_getR (b := 3) dX6_laysAll_79 fl_X6_16 rfl (((sT_emM M 0 13 8 ([] ++ [9])).TR hT).s 0 (by decide)) (((sT_emM M 0 13 8 ([] ++ [9])).TR hT).n 0 (by decide)) (((sT_emM M 0 13 8 ([] ++ [9])).TR hT).r 2) ?_
  refine aw_iload_n dX6_laysAll_82 2 rfl ?_
  refine aw_laldN T dX6_laysAll_83 (((sT_emM M 0 13 8 ([] ++ [9])).TR hT).s 3 (by decide)) (((sT_emM M 0 13 8 ([] ++ [9])).TR hT).n 3 (by decide)) rfl (by omega) (by first | decide | omega) ?_
  refine aw_toplE ho ?_
  refine aw_l2i dX6_laysAll_84 ?_
  refine aw_callVv [.int (Int64.toInt32 v)] [] (sp_ls (d := d - 1) (by omega) (l := [] ++ [9]) (Int64.toInt32 v) hT (by decide)) dX6_laysAll_85 ml_X6_240 im_X6_lays (((sT_emM M 0 13 8 ([] ++ [9])).TR hT).s 0 (by decide)) (((sT_emM M 0 13 8 ([] ++ [9])).TR hT).n 0 (by decide)) rfl rfl (dl1 (d := d) (by omega)) rfl rfl (Nat.le_of_ble_eq_true rfl) rfl rfl (Nat.zero_le _) (Nat.zero_le _) ?_
  refine aw_goto 97 dX6_laysAll_88 (by decide) ?_
  refine aw_sub [1, 2, 3] rfl ?_
  exact k
theorem la_r {d : Nat} (hd : 5 ≤ d) {M M2 : xM} {T m κ : Nat} {post : Option Value → xM → Prop} (hT : TR M) (hTl : T < 24) (hk : mI M 1 T = nI κ) (hκ : κ < 14) (hC : Sp (fX6_laysRow (d - 1)) [.ref 0, .int (nI T), .int (nI m)] (emM M 0 13 8 ([])) (dt none M2)) (k : AW (fX6_laysAll d) 97 [(0, .ref 0), (1, .int (nI T)), (2, .int (nI m))] [] M2 0 0 post) : AW (fX6_laysAll d) 36 [(3, .int (nI 24)), (0, .ref 0), (1, .int (nI T)), (2, .int (nI m))] [] (emM M 0 13 8 ([])) 0 0 post := by
  refine aw_aload_n dX6_laysAll_36 1 rfl ?_
  refine aw_getR (b := 1) dX6_laysAll_37 fl_X6_7 rfl (((sT_emM M 0 13 8 ([])).TR hT).s 0 (by decide)) (((sT_emM M 0 13 8 ([])).TR hT).n 0 (by decide)) (((sT_emM M 0 13 8 ([])).TR hT).r 0) ?_
  refine aw_iload_n dX6_laysAll_40 2 rfl ?_
  refine aw_ialdN T dX6_laysAll_41 (((sT_emM M 0 13 8 ([])).TR hT).s 1 (by decide)) (((sT_emM M 0 13 8 ([])).TR hT).n 1 (by decide)) rfl (by omega) (by first | decide | omega) ?_
  refine aw_topE ((congrFun (emM_I M ([]) (show (1 : Nat) ≠ 0 by decide) (show (1 : Nat) ≠ 8 by decide)) T).trans hk) ?_
  refine aw_bipush (v := 15) dX6_laysAll_42 (by decide) ?_
  refine aw_icmp_neN κ 15 60 dX6_laysAll_44 (by decide) rfl rfl (by omega) (by omega) (fun c1 => ?_) (fun c1 => absurd c1 (by omega))
  refine aw_aload_n dX6_laysAll_60 1 rfl ?_
  refine aw_getR (b := 1) dX6_laysAll_61 fl_X6_7 rfl (((sT_emM M 0 13 8 ([])).TR hT).s 0 (by decide)) (((sT_emM M 0 13 8 ([])).TR hT).n 0 (by decide)) (((sT_emM M 0 13 8 ([])).TR hT).r 0) ?_
  refine aw_iload_n dX6_laysAll_64 2 rfl ?_
  refine aw_ialdN T dX6_laysAll_65 (((sT_emM M 0 13 8 ([])).TR hT).s 1 (by decide)) (((sT_emM M 0 13 8 ([])).TR hT).n 1 (by decide)) rfl (by omega) (by first | decide | omega) ?_
  refine aw_topE ((congrFun (emM_I M ([]) (show (1 : Nat) ≠ 0 by decide) (show (1 : Nat) ≠ 8 by decide)) T).trans hk) ?_
  refine aw_bipush (v := 14) dX6_laysAll_66 (by decide) ?_
  refine aw_icmp_neN κ 14 91 dX6_laysAll_68 (by decide) rfl rfl (by omega) (by omega) (fun c2 => ?_) (fun c2 => absurd c2 (by omega))
  refine aw_aload_n dX6_laysAll_91 1 rfl ?_
  refine aw_iload_n dX6_laysAll_92 2 rfl ?_
  refine aw_iload_n dX6_laysAll_93 3 rfl ?_
  refine aw_callVv [.int (nI T), .int (nI m)] [] hC dX6_laysAll_94 ml_X6_273 im_X6_laysRow (((sT_emM M 0 13 8 ([])).TR hT).s 0 (by decide)) (((sT_emM M 0 13 8 ([])).TR hT).n 0 (by decide)) rfl rfl (dl1 (d := d) (by omega)) rfl rfl (Nat.le_of_ble_eq_true rfl) rfl rfl (Nat.zero_le _) (Nat.zero_le _) ?_
  refine aw_sub [1, 2, 3] rfl ?_
  exact k
theorem la_go {d : Nat} {M : xM} {T m : Nat} {post : Option Value → xM → Prop} (hT : TR M) (hk : AW (fX6_laysAll d) 36 [(3, .int (nI 24)), (0, .ref 0), (1, .int (nI T)), (2, .int (nI m))] [] (laM M) 0 0 post) : AW (fX6_laysAll d) 0 [(0, .ref 0), (1, .int (nI T)), (2, .int (nI m))] [] M 0 0 post := by
  refine aw_aload_n dX6_laysAll_0 0 rfl ?_
  refine aw_iconst (v := 0) dX6_laysAll_1 (by decide) ?_
  refine aw_putI dX6_laysAll_2 fl_X6_235 (Or.inl rfl) (hT.s 0 (by decide)) (hT.n 0 (by decide)) ?_
  refine aw_aload_n dX6_laysAll_5 0 rfl ?_
  refine aw_iconst (v := 0) dX6_laysAll_6 (by decide) ?_
  refine aw_putI dX6_laysAll_7 fl_X6_261 (Or.inl rfl) (hT.s 0 (by decide)) (hT.n 0 (by decide)) ?_
  refine aw_aload_n dX6_laysAll_10 0 rfl ?_
  refine aw_iconst (v := 0) dX6_laysAll_11 (by decide) ?_
  refine aw_putI dX6_laysAll_12 fl_X6_267 (Or.inl rfl) (hT.s 0 (by decide)) (hT.n 0 (by decide)) ?_
  refine aw_iconst (v := 0) dX6_laysAll_15 (by decide) ?_
  refine aw_istore_n [(3, .int 0), (0, .ref 0), (1, .int (nI T)), (2, .int (nI m))] dX6_laysAll_16 (Nat.le_of_ble_eq_true rfl) rfl ?_
  refine aw_eqM (flI_0 (la0M M) 10 0 (fun _ => -1)).symm ?_
  exact lp_la0 (M := la0M M) hT hk 24 0 (by omega)
