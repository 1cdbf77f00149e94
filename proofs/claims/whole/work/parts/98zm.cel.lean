-- THE REFERENCE WRITES ROWS AND CELLS
theorem emM_st (M : xM) {x k : Nat} (y : Int32) (l : List Int32) (h : x ≠ 8) (h2 : x = 0 → k ≠ 13) : stI (emM M 0 13 8 l) x k y = emM (stI M x k y) 0 13 8 l := by
  have e : xup (xup (xfl M.1 8 0 l.length (fun k => l.getD k 0)) 0 13 (nI l.length)) x k y = xup (xfl (xup M.1 x k y) 8 0 l.length (fun k => l.getD k 0)) 0 13 (nI l.length) := by
    funext p q
    unfold xup xfl
    by_cases c1 : p = x
    · subst c1
      by_cases c2 : q = k
      · subst c2
        by_cases c3 : p = 0
        · simp [h2 c3, h]
        · simp [c3, h]
      · simp [c2]
    · simp [c1]
  exact Prod.ext e rfl
/-- row T is met as number n -/
def meM (R : xM) (n T : Nat) : xM := stI (stI (stI R 10 T (nI n)) 11 n (nI T)) 0 17 (nI (n + 1))
/-- row T is opened -/
def puM (R : xM) (p T : Nat) : xM := stI (stI (stI R 12 p (nI T)) 13 p 0) 0 19 (nI (p + 1))
theorem sT_meM (R : xM) (n T : Nat) : sT R (meM R n T) := ⟨rfl, rfl, rfl⟩
theorem sT_puM (R : xM) (n T : Nat) : sT R (puM R n T) := ⟨rfl, rfl, rfl⟩
theorem meM_I (R : xM) {n T x : Nat} (h0 : x ≠ 0) (h1 : x ≠ 10) (h2 : x ≠ 11) : mI (meM R n T) x = mI R x := by
  unfold meM
  rw [mI_stI_c _ _ _ h0, mI_stI_c _ _ _ h2, mI_stI_c _ _ _ h1]
theorem puM_I (R : xM) {n T x : Nat} (h0 : x ≠ 0) (h1 : x ≠ 12) (h2 : x ≠ 13) : mI (puM R n T) x = mI R x := by
  unfold puM
  rw [mI_stI_c _ _ _ h0, mI_stI_c _ _ _ h2, mI_stI_c _ _ _ h1]
theorem meM_0 (R : xM) {n T k : Nat} (h : k ≠ 17) : mI (meM R n T) 0 k = mI R 0 k := by
  unfold meM
  rw [mI_stI_o _ _ _ _ h, mI_stI_c _ _ _ (show (0 : Nat) ≠ 11 by decide), mI_stI_c _ _ _ (show (0 : Nat) ≠ 10 by decide)]
theorem meM_e (R : xM) (n T : Nat) (l : List Int32) : stI (stI (stI (emM R 0 13 8 l) 10 T (nI n)) 11 n (nI T)) 0 17 (nI (n + 1)) = emM (meM R n T) 0 13 8 l := by
  rw [emM_st _ _ _ (by decide) (fun z => absurd z (by decide)), emM_st _ _ _ (by decide) (fun z => absurd z (by decide)), emM_st _ _ _ (by decide) (fun _ => by decide)]
  rfl
theorem puM_e (R : xM) (n T : Nat) (l : List Int32) : stI (stI (stI (emM R 0 13 8 l) 12 n (nI T)) 13 n 0) 0 19 (nI (n + 1)) = emM (puM R n T) 0 13 8 l := by
  rw [emM_st _ _ _ (by decide) (fun z => absurd z (by decide)), emM_st _ _ _ (by decide) (fun z => absurd z (by decide)), emM_st _ _ _ (by decide) (fun _ => by decide)]
  rfl
theorem pln_k {M : xM} {T k : Nat} (hT : T < 24) (hk : k < 14) (h : mI M 1 T = nI k) : sX6_isPlain M (nI T) = decide (k < 8) := by
  unfold sX6_isPlain
  rw [nI_clamp (by omega), h]
  exact (by decide : ∀ k, k < 14 → (if 8 ≤ nI k then false else true) = decide (k < 8)) k hk
theorem sp_lrP {d : Nat} (hd : 5 ≤ d) {M : xM} {l : List Int32} {m n : Nat} (hm : m < 3) (k z T : Nat) (V : Nat → Int64) (hT : TR M) (hk8 : k < 8) (hTl : T < 24) (hk : mI M 1 T = nI k) (hz : mI M 2 T = nI z) (hz2 : z ≤ 12) (hV : ∀ i, i < z → mL M 5 (12 * T + i) = V i) (hok : ∀ i, i < z → okN k (V i)) (hn : mI M 0 17 = nI n) (hn2 : n < 12) (hl : l.length + 122 ≤ 1500) : Sp (fX6_laysRow d) [.ref 0, .int (nI T), .int (nI m)] (emM M 0 13 8 l) (dt none (emM (meM M n T) 0 13 8 (l ++ prB m k z V))) := by
  refine Sp.of pn_X6 (Nat.le_of_ble_eq_true rfl) (fun h => Bool.noConfusion h) ?_
  have hkm : mI (meM M n T) 1 T = nI k := (congrFun (meM_I M (show (1 : Nat) ≠ 0 by decide) (show (1 : Nat) ≠ 10 by decide) (show (1 : Nat) ≠ 11 by decide)) T).trans hk
  have hzm : mI (meM M n T) 2 T = nI z := (congrFun (meM_I M (show (2 : Nat) ≠ 0 by decide) (show (2 : Nat) ≠ 10 by decide) (show (2 : Nat) ≠ 11 by decide)) T).trans hz
  have hcs : (m = 0) ∨ (m = 1) ∨ (m = 2 ∧ 0 < k ∧ k < 6) ∨ (m = 2 ∧ k = 0) ∨ (m = 2 ∧ 6 ≤ k) := by omega
  rcases hcs with h | h | h | h | h
  · subst h
    have ef : foP 0 k = 0 := if_neg (by omega)
    have e : prB 0 k z V = [nI (16 + 16 * 0 + k), nI z] ++ flB k V z 0 := by unfold prB; rw [ef]; rfl
    have e3 : l ++ [nI (16 + 16 * 0 + k)] ++ [nI z] ++ flB k V z 0 = l ++ prB 0 k z V := by rw [e]; simp
    rw [← e3]
    refine aw_aload_n dX6_laysRow_0 0 rfl ?_
    refine aw_getR (b := 10) dX6_laysRow_1 fl_X6_42 rfl (((sT_emM M 0 13 8 l).TR hT).s 0 (by decide)) (((sT_emM M 0 13 8 l).TR hT).n 0 (by decide)) (((sT_emM M 0 13 8 l).TR hT).r 16) ?_
    refine aw_iload_n dX6_laysRow_4 1 rfl ?_
    refine aw_aload_n dX6_laysRow_5 0 rfl ?_
    refine aw_getI dX6_laysRow_6 fl_X6_261 (((sT_emM M 0 13 8 l).TR hT).s 0 (by decide)) (((sT_emM M 0 13 8 l).TR hT).n 0 (by decide)) ?_
    refine aw_topE ((emM_a M l (show (17 : Nat) ≠ 13 by decide) (show (0 : Nat) ≠ 8 by decide)).trans hn) ?_
    refine aw_iastN T dX6_laysRow_9 (((sT_emM M 0 13 8 l).TR hT).s 10 (by decide)) (((sT_emM M 0 13 8 l).TR hT).n 10 (by decide)) rfl (by omega) (by first | decide | omega) ?_
    refine aw_aload_n dX6_laysRow_10 0 rfl ?_
    refine aw_getR (b := 11) dX6_laysRow_11 fl_X6_45 rfl (((sT_emM M 0 13 8 l).TR hT).s 0 (by decide)) (((sT_emM M 0 13 8 l).TR hT).n 0 (by decide)) (((sT_emM M 0 13 8 l).TR hT).r 18) ?_
    refine aw_aload_n dX6_laysRow_14 0 rfl ?_
    refine aw_getI dX6_laysRow_15 fl_X6_261 (((sT_emM M 0 13 8 l).TR hT).s 0 (by decide)) (((sT_emM M 0 13 8 l).TR hT).n 0 (by decide)) ?_
    refine aw_topE ((congrFun (mI_stI_c _ _ _ (show (0 : Nat) ≠ 10 by decide)) 17).trans ((emM_a M l (show (17 : Nat) ≠ 13 by decide) (show (0 : Nat) ≠ 8 by decide)).trans hn)) ?_
    refine aw_iload_n dX6_laysRow_18 1 rfl ?_
    refine aw_iastN n dX6_laysRow_19 (((sT_emM M 0 13 8 l).TR hT).s 11 (by decide)) (((sT_emM M 0 13 8 l).TR hT).n 11 (by decide)) rfl (by omega) (by first | decide | omega) ?_
    refine aw_aload_n dX6_laysRow_20 0 rfl ?_
    refine aw_dup dX6_laysRow_21 rfl ?_
    refine aw_getI dX6_laysRow_22 fl_X6_261 (((sT_emM M 0 13 8 l).TR hT).s 0 (by decide)) (((sT_emM M 0 13 8 l).TR hT).n 0 (by decide)) ?_
    refine aw_topE ((congrFun (mI_stI_c _ _ _ (show (0 : Nat) ≠ 11 by decide)) 17).trans ((congrFun (mI_stI_c _ _ _ (show (0 : Nat) ≠ 10 by decide)) 17).trans ((emM_a M l (show (17 : Nat) ≠ 13 by decide) (show (0 : Nat) ≠ 8 by decide)).trans hn))) ?_
    refine aw_iconst (v := 1) dX6_laysRow_25 (by decide) ?_
    refine aw_iaddN n 1 dX6_laysRow_26 rfl rfl ?_
    refine aw_putI dX6_laysRow_27 fl_X6_261 (Or.inl rfl) (((sT_emM M 0 13 8 l).TR hT).s 0 (by decide)) (((sT_emM M 0 13 8 l).TR hT).n 0 (by decide)) ?_
    refine aw_eqM (meM_e M n T l) ?_
    refine aw_aload_n dX6_laysRow_30 0 rfl ?_
    refine aw_iload_n dX6_laysRow_31 1 rfl ?_
    refine aw_callVi [.int (nI T)] [] (sp_X6_isPlain (d := d - 1) (by omega) (nI T) ((sT_emM (meM M n T) 0 13 8 l).TR ((sT_meM M n T).TR hT)) (vp_in_nI hTl (by decide))) dX6_laysRow_32 ml_X6_183 im_X6_isPlain (((sT_emM (meM M n T) 0 13 8 l).TR ((sT_meM M n T).TR hT)).s 0 (by decide)) (((sT_emM (meM M n T) 0 13 8 l).TR ((sT_meM M n T).TR hT)).n 0 (by decide)) rfl rfl (dl1 (d := d) (by omega)) rfl rfl (Nat.le_of_ble_eq_true rfl) rfl rfl (Nat.zero_le _) (Nat.zero_le _) ?_
    refine aw_if_eq 42 dX6_laysRow_35 (by decide) (fun c1 => absurd c1 (bz_n0.mpr ((pln_k (M := (emM (meM M n T) 0 13 8 l)) hTl (by omega) ((congrFun (emM_I (meM M n T) l (show (1 : Nat) ≠ 0 by decide) (show (1 : Nat) ≠ 8 by decide)) T).trans hkm)).trans (decide_eq_true hk8)))) (fun c1 => ?_)
    refine aw_iload_n dX6_laysRow_38 2 rfl ?_
    refine aw_goto 43 dX6_laysRow_39 (by decide) ?_
    refine aw_istore_n [(3, .int 0), (0, .ref 0), (1, .int (nI T)), (2, .int 0)] dX6_laysRow_43 (Nat.le_of_ble_eq_true rfl) rfl ?_
    refine aw_iload_n dX6_laysRow_44 0 rfl ?_
    refine aw_iconst (v := 2) dX6_laysRow_45 (by decide) ?_
    refine aw_icmp_ne 70 dX6_laysRow_46 (by decide) (fun c2 => ?_) (fun c2 => absurd c2 (by decide))
    refine aw_aload_n dX6_laysRow_70 1 rfl ?_
    refine aw_bipush (v := 16) dX6_laysRow_71 (by decide) ?_
    refine aw_bipush (v := 16) dX6_laysRow_73 (by decide) ?_
    refine aw_iload_n dX6_laysRow_75 0 rfl ?_
    refine aw_imul dX6_laysRow_76 ?_
    refine aw_iadd dX6_laysRow_77 ?_
    refine aw_aload_n dX6_laysRow_78 1 rfl ?_
    refine aw_getR (b := 1) dX6_laysRow_79 fl_X6_7 rfl (((sT_emM (meM M n T) 0 13 8 l).TR ((sT_meM M n T).TR hT)).s 0 (by decide)) (((sT_emM (meM M n T) 0 13 8 l).TR ((sT_meM M n T).TR hT)).n 0 (by decide)) (((sT_emM (meM M n T) 0 13 8 l).TR ((sT_meM M n T).TR hT)).r 0) ?_
    refine aw_iload_n dX6_laysRow_82 2 rfl ?_
    refine aw_ialdN T dX6_laysRow_83 (((sT_emM (meM M n T) 0 13 8 l).TR ((sT_meM M n T).TR hT)).s 1 (by decide)) (((sT_emM (meM M n T) 0 13 8 l).TR ((sT_meM M n T).TR hT)).n 1 (by decide)) rfl (by omega) (by first | decide | omega) ?_
    refine aw_topE ((congrFun (emM_I (meM M n T) l (show (1 : Nat) ≠ 0 by decide) (show (1 : Nat) ≠ 8 by decide)) T).trans ((congrFun (meM_I M (show (1 : Nat) ≠ 0 by decide) (show (1 : Nat) ≠ 10 by decide) (show (1 : Nat) ≠ 11 by decide)) T).trans hk)) ?_
    refine aw_iadd dX6_laysRow_84 ?_
    refine aw_callVv [.int ((16 + (16 * 0)) + (nI k))] [] (sp_ls (d := d - 1) (by omega) (l := l) ((16 + (16 * 0)) + (nI k)) ((sT_meM M n T).TR hT) (by first | omega | (simp only [List.length_append, List.length_cons, List.length_nil, byB_len] at *; omega))) dX6_laysRow_85 ml_X6_240 im_X6_lays (((sT_emM (meM M n T) 0 13 8 l).TR ((sT_meM M n T).TR hT)).s 0 (by decide)) (((sT_emM (meM M n T) 0 13 8 l).TR ((sT_meM M n T).TR hT)).n 0 (by decide)) rfl rfl (dl1 (d := d) (by omega)) rfl rfl (Nat.le_of_ble_eq_true rfl) rfl rfl (Nat.zero_le _) (Nat.zero_le _) ?_
    refine aw_aload_n dX6_laysRow_88 1 rfl ?_
    refine aw_aload_n dX6_laysRow_89 1 rfl ?_
    refine aw_getR (b := 2) dX6_laysRow_90 fl_X6_13 rfl (((sT_emM (meM M n T) 0 13 8 (l ++ [(16 + (16 * 0)) + (nI k)])).TR ((sT_meM M n T).TR hT)).s 0 (by decide)) (((sT_emM (meM M n T) 0 13 8 (l ++ [(16 + (16 * 0)) + (nI k)])).TR ((sT_meM M n T).TR hT)).n 0 (by decide)) (((sT_emM (meM M n T) 0 13 8 (l ++ [(16 + (16 * 0)) + (nI k)])).TR ((sT_meM M n T).TR hT)).r 1) ?_
    refine aw_iload_n dX6_laysRow_93 2 rfl ?_
    refine aw_ialdN T dX6_laysRow_94 (((sT_emM (meM M n T) 0 13 8 (l ++ [(16 + (16 * 0)) + (nI k)])).TR ((sT_meM M n T).TR hT)).s 2 (by decide)) (((sT_emM (meM M n T) 0 13 8 (l ++ [(16 + (16 * 0)) + (nI k)])).TR ((sT_meM M n T).TR hT)).n 2 (by decide)) rfl (by omega) (by first | decide | omega) ?_
    refine aw_topE ((congrFun (emM_I (meM M n T) (l ++ [(16 + (16 * 0)) + (nI k)]) (show (2 : Nat) ≠ 0 by decide) (show (2 : Nat) ≠ 8 by decide)) T).trans ((congrFun (meM_I M (show (2 : Nat) ≠ 0 by decide) (show (2 : Nat) ≠ 10 by decide) (show (2 : Nat) ≠ 11 by decide)) T).trans hz)) ?_
    refine aw_callVv [.int (nI z)] [] (sp_ls (d := d - 1) (by omega) (l := l ++ [(16 + (16 * 0)) + (nI k)]) (nI z) ((sT_meM M n T).TR hT) (by first | omega | (simp only [List.length_append, List.length_cons, List.length_nil, byB_len] at *; omega))) dX6_laysRow_95 ml_X6_240 im_X6_lays (((sT_emM (meM M n T) 0 13 8 (l ++ [(16 + (16 * 0)) + (nI k)])).TR ((sT_meM M n T).TR hT)).s 0 (by decide)) (((sT_emM (meM M n T) 0 13 8 (l ++ [(16 + (16 * 0)) + (nI k)])).TR ((sT_meM M n T).TR hT)).n 0 (by decide)) rfl rfl (dl1 (d := d) (by omega)) rfl rfl (Nat.le_of_ble_eq_true rfl) rfl rfl (Nat.zero_le _) (Nat.zero_le _) ?_
    refine aw_aload_n dX6_laysRow_98 1 rfl ?_
    refine aw_iload_n dX6_laysRow_99 2 rfl ?_
    refine aw_callVi [.int (nI T)] [] (sp_X6_isPlain (d := d - 1) (by omega) (nI T) ((sT_emM (meM M n T) 0 13 8 (l ++ [(16 + (16 * 0)) + (nI k)] ++ [nI z])).TR ((sT_meM M n T).TR hT)) (vp_in_nI hTl (by decide))) dX6_laysRow_100 ml_X6_183 im_X6_isPlain (((sT_emM (meM M n T) 0 13 8 (l ++ [(16 + (16 * 0)) + (nI k)] ++ [nI z])).TR ((sT_meM M n T).TR hT)).s 0 (by decide)) (((sT_emM (meM M n T) 0 13 8 (l ++ [(16 + (16 * 0)) + (nI k)] ++ [nI z])).TR ((sT_meM M n T).TR hT)).n 0 (by decide)) rfl rfl (dl1 (d := d) (by omega)) rfl rfl (Nat.le_of_ble_eq_true rfl) rfl rfl (Nat.zero_le _) (Nat.zero_le _) ?_
    refine aw_if_eq 115 dX6_laysRow_103 (by decide) (fun c3 => absurd c3 (bz_n0.mpr ((pln_k (M := (emM (meM M n T) 0 13 8 (l ++ [(16 + (16 * 0)) + (nI k)] ++ [nI z]))) hTl (by omega) ((congrFun (emM_I (meM M n T) (l ++ [(16 + (16 * 0)) + (nI k)] ++ [nI z]) (show (1 : Nat) ≠ 0 by decide) (show (1 : Nat) ≠ 8 by decide)) T).trans hkm)).trans (decide_eq_true hk8)))) (fun c3 => ?_)
    refine aw_aload_n dX6_laysRow_106 1 rfl ?_
    refine aw_iload_n dX6_laysRow_107 2 rfl ?_
    refine aw_iload_n dX6_laysRow_108 0 rfl ?_
    refine aw_callVv [.int (nI T), .int 0] [] (sp_lp0 (d := d - 1) (by omega) (l := l ++ [(16 + (16 * 0)) + (nI k)] ++ [nI z]) k z T V ((sT_meM M n T).TR hT) hk8 hTl hkm hzm hz2 hV hok (by first | omega | (simp only [List.length_append, List.length_cons, List.length_nil, byB_len] at *; omega))) dX6_laysRow_109 ml_X6_264 im_X6_laysPlain (((sT_emM (meM M n T) 0 13 8 (l ++ [(16 + (16 * 0)) + (nI k)] ++ [nI z])).TR ((sT_meM M n T).TR hT)).s 0 (by decide)) (((sT_emM (meM M n T) 0 13 8 (l ++ [(16 + (16 * 0)) + (nI k)] ++ [nI z])).TR ((sT_meM M n T).TR hT)).n 0 (by decide)) rfl rfl (dl1 (d := d) (by omega)) rfl rfl (Nat.le_of_ble_eq_true rfl) rfl rfl (Nat.zero_le _) (Nat.zero_le _) ?_
    refine aw_goto 145 dX6_laysRow_112 (by decide) ?_
    refine aw_ret dX6_laysRow_145 rfl (Nat.zero_le _) (Nat.zero_le _) ?_
    exact ⟨rfl, by rw [show (16 : Int32) + 16 * 0 + nI k = nI (16 + 16 * 0 + k) from nI_add (16 + 16 * 0) k]⟩
  · subst h
    have ef : foP 1 k = 1 := if_neg (by omega)
    have e : prB 1 k z V = [nI (16 + 16 * 1 + k), nI z] ++ ruB k V z z 1 0 := by unfold prB; rw [ef]; rfl
    have e3 : l ++ [nI (16 + 16 * 1 + k)] ++ [nI z] ++ ruB k V z z 1 0 = l ++ prB 1 k z V := by rw [e]; simp
    rw [← e3]
    refine aw_aload_n dX6_laysRow_0 0 rfl ?_
    refine aw_getR (b := 10) dX6_laysRow_1 fl_X6_42 rfl (((sT_emM M 0 13 8 l).TR hT).s 0 (by decide)) (((sT_emM M 0 13 8 l).TR hT).n 0 (by decide)) (((sT_emM M 0 13 8 l).TR hT).r 16) ?_
    refine aw_iload_n dX6_laysRow_4 1 rfl ?_
    refine aw_aload_n dX6_laysRow_5 0 rfl ?_
    refine aw_getI dX6_laysRow_6 fl_X6_261 (((sT_emM M 0 13 8 l).TR hT).s 0 (by decide)) (((sT_emM M 0 13 8 l).TR hT).n 0 (by decide)) ?_
    refine aw_topE ((emM_a M l (show (17 : Nat) ≠ 13 by decide) (show (0 : Nat) ≠ 8 by decide)).trans hn) ?_
    refine aw_iastN T dX6_laysRow_9 (((sT_emM M 0 13 8 l).TR hT).s 10 (by decide)) (((sT_emM M 0 13 8 l).TR hT).n 10 (by decide)) rfl (by omega) (by first | decide | omega) ?_
    refine aw_aload_n dX6_laysRow_10 0 rfl ?_
    refine aw_getR (b := 11) dX6_laysRow_11 fl_X6_45 rfl (((sT_emM M 0 13 8 l).TR hT).s 0 (by decide)) (((sT_emM M 0 13 8 l).TR hT).n 0 (by decide)) (((sT_emM M 0 13 8 l).TR hT).r 18) ?_
    refine aw_aload_n dX6_laysRow_14 0 rfl ?_
    refine aw_getI dX6_laysRow_15 fl_X6_261 (((sT_emM M 0 13 8 l).TR hT).s 0 (by decide)) (((sT_emM M 0 13 8 l).TR hT).n 0 (by decide)) ?_
    refine aw_topE ((congrFun (mI_stI_c _ _ _ (show (0 : Nat) ≠ 10 by decide)) 17).trans ((emM_a M l (show (17 : Nat) ≠ 13 by decide) (show (0 : Nat) ≠ 8 by decide)).trans hn)) ?_
    refine aw_iload_n dX6_laysRow_18 1 rfl ?_
    refine aw_iastN n dX6_laysRow_19 (((sT_emM M 0 13 8 l).TR hT).s 11 (by decide)) (((sT_emM M 0 13 8 l).TR hT).n 11 (by decide)) rfl (by omega) (by first | decide | omega) ?_
    refine aw_aload_n dX6_laysRow_20 0 rfl ?_
    refine aw_dup dX6_laysRow_21 rfl ?_
    refine aw_getI dX6_laysRow_22 fl_X6_261 (((sT_emM M 0 13 8 l).TR hT).s 0 (by decide)) (((sT_emM M 0 13 8 l).TR hT).n 0 (by decide)) ?_
    refine aw_topE ((congrFun (mI_stI_c _ _ _ (show (0 : Nat) ≠ 11 by decide)) 17).trans ((congrFun (mI_stI_c _ _ _ (show (0 : Nat) ≠ 10 by decide)) 17).trans ((emM_a M l (show (17 : Nat) ≠ 13 by decide) (show (0 : Nat) ≠ 8 by decide)).trans hn))) ?_
    refine aw_iconst (v := 1) dX6_laysRow_25 (by decide) ?_
    refine aw_iaddN n 1 dX6_laysRow_26 rfl rfl ?_
    refine aw_putI dX6_laysRow_27 fl_X6_261 (Or.inl rfl) (((sT_emM M 0 13 8 l).TR hT).s 0 (by decide)) (((sT_emM M 0 13 8 l).TR hT).n 0 (by decide)) ?_
    refine aw_eqM (meM_e M n T l) ?_
    refine aw_aload_n dX6_laysRow_30 0 rfl ?_
    refine aw_iload_n dX6_laysRow_31 1 rfl ?_
    refine aw_callVi [.int (nI T)] [] (sp_X6_isPlain (d := d - 1) (by omega) (nI T) ((sT_emM (meM M n T) 0 13 8 l).TR ((sT_meM M n T).TR hT)) (vp_in_nI hTl (by decide))) dX6_laysRow_32 ml_X6_183 im_X6_isPlain (((sT_emM (meM M n T) 0 13 8 l).TR ((sT_meM M n T).TR hT)).s 0 (by decide)) (((sT_emM (meM M n T) 0 13 8 l).TR ((sT_meM M n T).TR hT)).n 0 (by decide)) rfl rfl (dl1 (d := d) (by omega)) rfl rfl (Nat.le_of_ble_eq_true rfl) rfl rfl (Nat.zero_le _) (Nat.zero_le _) ?_
    refine aw_if_eq 42 dX6_laysRow_35 (by decide) (fun c1 => absurd c1 (bz_n0.mpr ((pln_k (M := (emM (meM M n T) 0 13 8 l)) hTl (by omega) ((congrFun (emM_I (meM M n T) l (show (1 : Nat) ≠ 0 by decide) (show (1 : Nat) ≠ 8 by decide)) T).trans hkm)).trans (decide_eq_true hk8)))) (fun c1 => ?_)
    refine aw_iload_n dX6_laysRow_38 2 rfl ?_
    refine aw_goto 43 dX6_laysRow_39 (by decide) ?_
    refine aw_istore_n [(3, .int 1), (0, .ref 0), (1, .int (nI T)), (2, .int 1)] dX6_laysRow_43 (Nat.le_of_ble_eq_true rfl) rfl ?_
    refine aw_iload_n dX6_laysRow_44 0 rfl ?_
    refine aw_iconst (v := 2) dX6_laysRow_45 (by decide) ?_
    refine aw_icmp_ne 70 dX6_laysRow_46 (by decide) (fun c2 => ?_) (fun c2 => absurd c2 (by decide))
    refine aw_aload_n dX6_laysRow_70 1 rfl ?_
    refine aw_bipush (v := 16) dX6_laysRow_71 (by decide) ?_
    refine aw_bipush (v := 16) dX6_laysRow_73 (by decide) ?_
    refine aw_iload_n dX6_laysRow_75 0 rfl ?_
    refine aw_imul dX6_laysRow_76 ?_
    refine aw_iadd dX6_laysRow_77 ?_
    refine aw_aload_n dX6_laysRow_78 1 rfl ?_
    refine aw_getR (b := 1) dX6_laysRow_79 fl_X6_7 rfl (((sT_emM (meM M n T) 0 13 8 l).TR ((sT_meM M n T).TR hT)).s 0 (by decide)) (((sT_emM (meM M n T) 0 13 8 l).TR ((sT_meM M n T).TR hT)).n 0 (by decide)) (((sT_emM (meM M n T) 0 13 8 l).TR ((sT_meM M n T).TR hT)).r 0) ?_
    refine aw_iload_n dX6_laysRow_82 2 rfl ?_
    refine aw_ialdN T dX6_laysRow_83 (((sT_emM (meM M n T) 0 13 8 l).TR ((sT_meM M n T).TR hT)).s 1 (by decide)) (((sT_emM (meM M n T) 0 13 8 l).TR ((sT_meM M n T).TR hT)).n 1 (by decide)) rfl (by omega) (by first | decide | omega) ?_
    refine aw_topE ((congrFun (emM_I (meM M n T) l (show (1 : Nat) ≠ 0 by decide) (show (1 : Nat) ≠ 8 by decide)) T).trans ((congrFun (meM_I M (show (1 : Nat) ≠ 0 by decide) (show (1 : Nat) ≠ 10 by decide) (show (1 : Nat) ≠ 11 by decide)) T).trans hk)) ?_
    refine aw_iadd dX6_laysRow_84 ?_
    refine aw_callVv [.int ((16 + (16 * 1)) + (nI k))] [] (sp_ls (d := d - 1) (by omega) (l := l) ((16 + (16 * 1)) + (nI k)) ((sT_meM M n T).TR hT) (by first | omega | (simp only [List.length_append, List.length_cons, List.length_nil, byB_len] at *; omega))) dX6_laysRow_85 ml_X6_240 im_X6_lays (((sT_emM (meM M n T) 0 13 8 l).TR ((sT_meM M n T).TR hT)).s 0 (by decide)) (((sT_emM (meM M n T) 0 13 8 l).TR ((sT_meM M n T).TR hT)).n 0 (by decide)) rfl rfl (dl1 (d := d) (by omega)) rfl rfl (Nat.le_of_ble_eq_true rfl) rfl rfl (Nat.zero_le _) (Nat.zero_le _) ?_
    refine aw_aload_n dX6_laysRow_88 1 rfl ?_
    refine aw_aload_n dX6_laysRow_89 1 rfl ?_
    refine aw_getR (b := 2) dX6_laysRow_90 fl_X6_13 rfl (((sT_emM (meM M n T) 0 13 8 (l ++ [(16 + (16 * 1)) + (nI k)])).TR ((sT_meM M n T).TR hT)).s 0 (by decide)) (((sT_emM (meM M n T) 0 13 8 (l ++ [(16 + (16 * 1)) + (nI k)])).TR ((sT_meM M n T).TR hT)).n 0 (by decide)) (((sT_emM (meM M n T) 0 13 8 (l ++ [(16 + (16 * 1)) + (nI k)])).TR ((sT_meM M n T).TR hT)).r 1) ?_
    refine aw_iload_n dX6_laysRow_93 2 rfl ?_
    refine aw_ialdN T dX6_laysRow_94 (((sT_emM (meM M n T) 0 13 8 (l ++ [(16 + (16 * 1)) + (nI k)])).TR ((sT_meM M n T).TR hT)).s 2 (by decide)) (((sT_emM (meM M n T) 0 13 8 (l ++ [(16 + (16 * 1)) + (nI k)])).TR ((sT_meM M n T).TR hT)).n 2 (by decide)) rfl (by omega) (by first | decide | omega) ?_
    refine aw_topE ((congrFun (emM_I (meM M n T) (l ++ [(16 + (16 * 1)) + (nI k)]) (show (2 : Nat) ≠ 0 by decide) (show (2 : Nat) ≠ 8 by decide)) T).trans ((congrFun (meM_I M (show (2 : Nat) ≠ 0 by decide) (show (2 : Nat) ≠ 10 by decide) (show (2 : Nat) ≠ 11 by decide)) T).trans hz)) ?_
    refine aw_callVv [.int (nI z)] [] (sp_ls (d := d - 1) (by omega) (l := l ++ [(16 + (16 * 1)) + (nI k)]) (nI z) ((sT_meM M n T).TR hT) (by first | omega | (simp only [List.length_append, List.length_cons, List.length_nil, byB_len] at *; omega))) dX6_laysRow_95 ml_X6_240 im_X6_lays (((sT_emM (meM M n T) 0 13 8 (l ++ [(16 + (16 * 1)) + (nI k)])).TR ((sT_meM M n T).TR hT)).s 0 (by decide)) (((sT_emM (meM M n T) 0 13 8 (l ++ [(16 + (16 * 1)) + (nI k)])).TR ((sT_meM M n T).TR hT)).n 0 (by decide)) rfl rfl (dl1 (d := d) (by omega)) rfl rfl (Nat.le_of_ble_eq_true rfl) rfl rfl (Nat.zero_le _) (Nat.zero_le _) ?_
    refine aw_aload_n dX6_laysRow_98 1 rfl ?_
    refine aw_iload_n dX6_laysRow_99 2 rfl ?_
    refine aw_callVi [.int (nI T)] [] (sp_X6_isPlain (d := d - 1) (by omega) (nI T) ((sT_emM (meM M n T) 0 13 8 (l ++ [(16 + (16 * 1)) + (nI k)] ++ [nI z])).TR ((sT_meM M n T).TR hT)) (vp_in_nI hTl (by decide))) dX6_laysRow_100 ml_X6_183 im_X6_isPlain (((sT_emM (meM M n T) 0 13 8 (l ++ [(16 + (16 * 1)) + (nI k)] ++ [nI z])).TR ((sT_meM M n T).TR hT)).s 0 (by decide)) (((sT_emM (meM M n T) 0 13 8 (l ++ [(16 + (16 * 1)) + (nI k)] ++ [nI z])).TR ((sT_meM M n T).TR hT)).n 0 (by decide)) rfl rfl (dl1 (d := d) (by omega)) rfl rfl (Nat.le_of_ble_eq_true rfl) rfl rfl (Nat.zero_le _) (Nat.zero_le _) ?_
    refine aw_if_eq 115 dX6_laysRow_103 (by decide) (fun c3 => absurd c3 (bz_n0.mpr ((pln_k (M := (emM (meM M n T) 0 13 8 (l ++ [(16 + (16 * 1)) + (nI k)] ++ [nI z]))) hTl (by omega) ((congrFun (emM_I (meM M n T) (l ++ [(16 + (16 * 1)) + (nI k)] ++ [nI z]) (show (1 : Nat) ≠ 0 by decide) (show (1 : Nat) ≠ 8 by decide)) T).trans hkm)).trans (decide_eq_true hk8)))) (fun c3 => ?_)
    refine aw_aload_n dX6_laysRow_106 1 rfl ?_
    refine aw_iload_n dX6_laysRow_107 2 rfl ?_
    refine aw_iload_n dX6_laysRow_108 0 rfl ?_
    refine aw_callVv [.int (nI T), .int 1] [] (sp_lp1 (d := d - 1) (by omega) (l := l ++ [(16 + (16 * 1)) + (nI k)] ++ [nI z]) k z T V ((sT_meM M n T).TR hT) hk8 hTl hkm hzm hz2 hV hok (by first | omega | (simp only [List.length_append, List.length_cons, List.length_nil, byB_len] at *; omega))) dX6_laysRow_109 ml_X6_264 im_X6_laysPlain (((sT_emM (meM M n T) 0 13 8 (l ++ [(16 + (16 * 1)) + (nI k)] ++ [nI z])).TR ((sT_meM M n T).TR hT)).s 0 (by decide)) (((sT_emM (meM M n T) 0 13 8 (l ++ [(16 + (16 * 1)) + (nI k)] ++ [nI z])).TR ((sT_meM M n T).TR hT)).n 0 (by decide)) rfl rfl (dl1 (d := d) (by omega)) rfl rfl (Nat.le_of_ble_eq_true rfl) rfl rfl (Nat.zero_le _) (Nat.zero_le _) ?_
    refine aw_goto 145 dX6_laysRow_112 (by decide) ?_
    refine aw_ret dX6_laysRow_145 rfl (Nat.zero_le _) (Nat.zero_le _) ?_
    exact ⟨rfl, by rw [show (16 : Int32) + 16 * 1 + nI k = nI (16 + 16 * 1 + k) from nI_add (16 + 16 * 1) k]⟩
  · obtain ⟨rfl, h⟩ := h
    have ef : foP 2 k = 2 := if_neg (by omega)
    have e : prB 2 k z V = [nI (16 + 16 * 2 + k), nI z] ++ ssB V z 0 0 := by unfold prB; rw [ef]; rfl
    have e3 : l ++ [nI (16 + 16 * 2 + k)] ++ [nI z] ++ ssB V z 0 0 = l ++ prB 2 k z V := by rw [e]; simp
    rw [← e3]
    refine aw_aload_n dX6_laysRow_0 0 rfl ?_
    refine aw_getR (b := 10) dX6_laysRow_1 fl_X6_42 rfl (((sT_emM M 0 13 8 l).TR hT).s 0 (by decide)) (((sT_emM M 0 13 8 l).TR hT).n 0 (by decide)) (((sT_emM M 0 13 8 l).TR hT).r 16) ?_
    refine aw_iload_n dX6_laysRow_4 1 rfl ?_
    refine aw_aload_n dX6_laysRow_5 0 rfl ?_
    refine aw_getI dX6_laysRow_6 fl_X6_261 (((sT_emM M 0 13 8 l).TR hT).s 0 (by decide)) (((sT_emM M 0 13 8 l).TR hT).n 0 (by decide)) ?_
    refine aw_topE ((emM_a M l (show (17 : Nat) ≠ 13 by decide) (show (0 : Nat) ≠ 8 by decide)).trans hn) ?_
    refine aw_iastN T dX6_laysRow_9 (((sT_emM M 0 13 8 l).TR hT).s 10 (by decide)) (((sT_emM M 0 13 8 l).TR hT).n 10 (by decide)) rfl (by omega) (by first | decide | omega) ?_
    refine aw_aload_n dX6_laysRow_10 0 rfl ?_
    refine aw_getR (b := 11) dX6_laysRow_11 fl_X6_45 rfl (((sT_emM M 0 13 8 l).TR hT).s 0 (by decide)) (((sT_emM M 0 13 8 l).TR hT).n 0 (by decide)) (((sT_emM M 0 13 8 l).TR hT).r 18) ?_
    refine aw_aload_n dX6_laysRow_14 0 rfl ?_
    refine aw_getI dX6_laysRow_15 fl_X6_261 (((sT_emM M 0 13 8 l).TR hT).s 0 (by decide)) (((sT_emM M 0 13 8 l).TR hT).n 0 (by decide)) ?_
    refine aw_topE ((congrFun (mI_stI_c _ _ _ (show (0 : Nat) ≠ 10 by decide)) 17).trans ((emM_a M l (show (17 : Nat) ≠ 13 by decide) (show (0 : Nat) ≠ 8 by decide)).trans hn)) ?_
    refine aw_iload_n dX6_laysRow_18 1 rfl ?_
    refine aw_iastN n dX6_laysRow_19 (((sT_emM M 0 13 8 l).TR hT).s 11 (by decide)) (((sT_emM M 0 13 8 l).TR hT).n 11 (by decide)) rfl (by omega) (by first | decide | omega) ?_
    refine aw_aload_n dX6_laysRow_20 0 rfl ?_
    refine aw_dup dX6_laysRow_21 rfl ?_
    refine aw_getI dX6_laysRow_22 fl_X6_261 (((sT_emM M 0 13 8 l).TR hT).s 0 (by decide)) (((sT_emM M 0 13 8 l).TR hT).n 0 (by decide)) ?_
    refine aw_topE ((congrFun (mI_stI_c _ _ _ (show (0 : Nat) ≠ 11 by decide)) 17).trans ((congrFun (mI_stI_c _ _ _ (show (0 : Nat) ≠ 10 by decide)) 17).trans ((emM_a M l (show (17 : Nat) ≠ 13 by decide) (show (0 : Nat) ≠ 8 by decide)).trans hn))) ?_
    refine aw_iconst (v := 1) dX6_laysRow_25 (by decide) ?_
    refine aw_iaddN n 1 dX6_laysRow_26 rfl rfl ?_
    refine aw_putI dX6_laysRow_27 fl_X6_261 (Or.inl rfl) (((sT_emM M 0 13 8 l).TR hT).s 0 (by decide)) (((sT_emM M 0 13 8 l).TR hT).n 0 (by decide)) ?_
    refine aw_eqM (meM_e M n T l) ?_
    refine aw_aload_n dX6_laysRow_30 0 rfl ?_
    refine aw_iload_n dX6_laysRow_31 1 rfl ?_
    refine aw_callVi [.int (nI T)] [] (sp_X6_isPlain (d := d - 1) (by omega) (nI T) ((sT_emM (meM M n T) 0 13 8 l).TR ((sT_meM M n T).TR hT)) (vp_in_nI hTl (by decide))) dX6_laysRow_32 ml_X6_183 im_X6_isPlain (((sT_emM (meM M n T) 0 13 8 l).TR ((sT_meM M n T).TR hT)).s 0 (by decide)) (((sT_emM (meM M n T) 0 13 8 l).TR ((sT_meM M n T).TR hT)).n 0 (by decide)) rfl rfl (dl1 (d := d) (by omega)) rfl rfl (Nat.le_of_ble_eq_true rfl) rfl rfl (Nat.zero_le _) (Nat.zero_le _) ?_
    refine aw_if_eq 42 dX6_laysRow_35 (by decide) (fun c1 => absurd c1 (bz_n0.mpr ((pln_k (M := (emM (meM M n T) 0 13 8 l)) hTl (by omega) ((congrFun (emM_I (meM M n T) l (show (1 : Nat) ≠ 0 by decide) (show (1 : Nat) ≠ 8 by decide)) T).trans hkm)).trans (decide_eq_true hk8)))) (fun c1 => ?_)
    refine aw_iload_n dX6_laysRow_38 2 rfl ?_
    refine aw_goto 43 dX6_laysRow_39 (by decide) ?_
    refine aw_istore_n [(3, .int 2), (0, .ref 0), (1, .int (nI T)), (2, .int 2)] dX6_laysRow_43 (Nat.le_of_ble_eq_true rfl) rfl ?_
    refine aw_iload_n dX6_laysRow_44 0 rfl ?_
    refine aw_iconst (v := 2) dX6_laysRow_45 (by decide) ?_
    refine aw_icmp_ne 70 dX6_laysRow_46 (by decide) (fun c2 => absurd rfl c2) (fun c2 => ?_)
    refine aw_aload_n dX6_laysRow_49 1 rfl ?_
    refine aw_getR (b := 1) dX6_laysRow_50 fl_X6_7 rfl (((sT_emM (meM M n T) 0 13 8 l).TR ((sT_meM M n T).TR hT)).s 0 (by decide)) (((sT_emM (meM M n T) 0 13 8 l).TR ((sT_meM M n T).TR hT)).n 0 (by decide)) (((sT_emM (meM M n T) 0 13 8 l).TR ((sT_meM M n T).TR hT)).r 0) ?_
    refine aw_iload_n dX6_laysRow_53 2 rfl ?_
    refine aw_ialdN T dX6_laysRow_54 (((sT_emM (meM M n T) 0 13 8 l).TR ((sT_meM M n T).TR hT)).s 1 (by decide)) (((sT_emM (meM M n T) 0 13 8 l).TR ((sT_meM M n T).TR hT)).n 1 (by decide)) rfl (by omega) (by first | decide | omega) ?_
    refine aw_topE ((congrFun (emM_I (meM M n T) l (show (1 : Nat) ≠ 0 by decide) (show (1 : Nat) ≠ 8 by decide)) T).trans ((congrFun (meM_I M (show (1 : Nat) ≠ 0 by decide) (show (1 : Nat) ≠ 10 by decide) (show (1 : Nat) ≠ 11 by decide)) T).trans hk)) ?_
    refine aw_if_eq 68 dX6_laysRow_55 (by decide) (fun c3 => absurd ((nI_00 (by omega)).mp c3) (by omega)) (fun c3 => ?_)
    refine aw_aload_n dX6_laysRow_58 1 rfl ?_
    refine aw_getR (b := 1) dX6_laysRow_59 fl_X6_7 rfl (((sT_emM (meM M n T) 0 13 8 l).TR ((sT_meM M n T).TR hT)).s 0 (by decide)) (((sT_emM (meM M n T) 0 13 8 l).TR ((sT_meM M n T).TR hT)).n 0 (by decide)) (((sT_emM (meM M n T) 0 13 8 l).TR ((sT_meM M n T).TR hT)).r 0) ?_
    refine aw_iload_n dX6_laysRow_62 2 rfl ?_
    refine aw_ialdN T dX6_laysRow_63 (((sT_emM (meM M n T) 0 13 8 l).TR ((sT_meM M n T).TR hT)).s 1 (by decide)) (((sT_emM (meM M n T) 0 13 8 l).TR ((sT_meM M n T).TR hT)).n 1 (by decide)) rfl (by omega) (by first | decide | omega) ?_
    refine aw_topE ((congrFun (emM_I (meM M n T) l (show (1 : Nat) ≠ 0 by decide) (show (1 : Nat) ≠ 8 by decide)) T).trans ((congrFun (meM_I M (show (1 : Nat) ≠ 0 by decide) (show (1 : Nat) ≠ 10 by decide) (show (1 : Nat) ≠ 11 by decide)) T).trans hk)) ?_
    refine aw_iconst (v := 5) dX6_laysRow_64 (by decide) ?_
    refine aw_icmp_leN k 5 70 dX6_laysRow_65 (by decide) rfl rfl (by omega) (by omega) (fun c4 => ?_) (fun c4 => absurd (by omega) c4)
    refine aw_aload_n dX6_laysRow_70 1 rfl ?_
    refine aw_bipush (v := 16) dX6_laysRow_71 (by decide) ?_
    refine aw_bipush (v := 16) dX6_laysRow_73 (by decide) ?_
    refine aw_iload_n dX6_laysRow_75 0 rfl ?_
    refine aw_imul dX6_laysRow_76 ?_
    refine aw_iadd dX6_laysRow_77 ?_
    refine aw_aload_n dX6_laysRow_78 1 rfl ?_
    refine aw_getR (b := 1) dX6_laysRow_79 fl_X6_7 rfl (((sT_emM (meM M n T) 0 13 8 l).TR ((sT_meM M n T).TR hT)).s 0 (by decide)) (((sT_emM (meM M n T) 0 13 8 l).TR ((sT_meM M n T).TR hT)).n 0 (by decide)) (((sT_emM (meM M n T) 0 13 8 l).TR ((sT_meM M n T).TR hT)).r 0) ?_
    refine aw_iload_n dX6_laysRow_82 2 rfl ?_
    refine aw_ialdN T dX6_laysRow_83 (((sT_emM (meM M n T) 0 13 8 l).TR ((sT_meM M n T).TR hT)).s 1 (by decide)) (((sT_emM (meM M n T) 0 13 8 l).TR ((sT_meM M n T).TR hT)).n 1 (by decide)) rfl (by omega) (by first | decide | omega) ?_
    refine aw_topE ((congrFun (emM_I (meM M n T) l (show (1 : Nat) ≠ 0 by decide) (show (1 : Nat) ≠ 8 by decide)) T).trans ((congrFun (meM_I M (show (1 : Nat) ≠ 0 by decide) (show (1 : Nat) ≠ 10 by decide) (show (1 : Nat) ≠ 11 by decide)) T).trans hk)) ?_
    refine aw_iadd dX6_laysRow_84 ?_
    refine aw_callVv [.int ((16 + (16 * 2)) + (nI k))] [] (sp_ls (d := d - 1) (by omega) (l := l) ((16 + (16 * 2)) + (nI k)) ((sT_meM M n T).TR hT) (by first | omega | (simp only [List.length_append, List.length_cons, List.length_nil, byB_len] at *; omega))) dX6_laysRow_85 ml_X6_240 im_X6_lays (((sT_emM (meM M n T) 0 13 8 l).TR ((sT_meM M n T).TR hT)).s 0 (by decide)) (((sT_emM (meM M n T) 0 13 8 l).TR ((sT_meM M n T).TR hT)).n 0 (by decide)) rfl rfl (dl1 (d := d) (by omega)) rfl rfl (Nat.le_of_ble_eq_true rfl) rfl rfl (Nat.zero_le _) (Nat.zero_le _) ?_
    refine aw_aload_n dX6_laysRow_88 1 rfl ?_
    refine aw_aload_n dX6_laysRow_89 1 rfl ?_
    refine aw_getR (b := 2) dX6_laysRow_90 fl_X6_13 rfl (((sT_emM (meM M n T) 0 13 8 (l ++ [(16 + (16 * 2)) + (nI k)])).TR ((sT_meM M n T).TR hT)).s 0 (by decide)) (((sT_emM (meM M n T) 0 13 8 (l ++ [(16 + (16 * 2)) + (nI k)])).TR ((sT_meM M n T).TR hT)).n 0 (by decide)) (((sT_emM (meM M n T) 0 13 8 (l ++ [(16 + (16 * 2)) + (nI k)])).TR ((sT_meM M n T).TR hT)).r 1) ?_
    refine aw_iload_n dX6_laysRow_93 2 rfl ?_
    refine aw_ialdN T dX6_laysRow_94 (((sT_emM (meM M n T) 0 13 8 (l ++ [(16 + (16 * 2)) + (nI k)])).TR ((sT_meM M n T).TR hT)).s 2 (by decide)) (((sT_emM (meM M n T) 0 13 8 (l ++ [(16 + (16 * 2)) + (nI k)])).TR ((sT_meM M n T).TR hT)).n 2 (by decide)) rfl (by omega) (by first | decide | omega) ?_
    refine aw_topE ((congrFun (emM_I (meM M n T) (l ++ [(16 + (16 * 2)) + (nI k)]) (show (2 : Nat) ≠ 0 by decide) (show (2 : Nat) ≠ 8 by decide)) T).trans ((congrFun (meM_I M (show (2 : Nat) ≠ 0 by decide) (show (2 : Nat) ≠ 10 by decide) (show (2 : Nat) ≠ 11 by decide)) T).trans hz)) ?_
    refine aw_callVv [.int (nI z)] [] (sp_ls (d := d - 1) (by omega) (l := l ++ [(16 + (16 * 2)) + (nI k)]) (nI z) ((sT_meM M n T).TR hT) (by first | omega | (simp only [List.length_append, List.length_cons, List.length_nil, byB_len] at *; omega))) dX6_laysRow_95 ml_X6_240 im_X6_lays (((sT_emM (meM M n T) 0 13 8 (l ++ [(16 + (16 * 2)) + (nI k)])).TR ((sT_meM M n T).TR hT)).s 0 (by decide)) (((sT_emM (meM M n T) 0 13 8 (l ++ [(16 + (16 * 2)) + (nI k)])).TR ((sT_meM M n T).TR hT)).n 0 (by decide)) rfl rfl (dl1 (d := d) (by omega)) rfl rfl (Nat.le_of_ble_eq_true rfl) rfl rfl (Nat.zero_le _) (Nat.zero_le _) ?_
    refine aw_aload_n dX6_laysRow_98 1 rfl ?_
    refine aw_iload_n dX6_laysRow_99 2 rfl ?_
    refine aw_callVi [.int (nI T)] [] (sp_X6_isPlain (d := d - 1) (by omega) (nI T) ((sT_emM (meM M n T) 0 13 8 (l ++ [(16 + (16 * 2)) + (nI k)] ++ [nI z])).TR ((sT_meM M n T).TR hT)) (vp_in_nI hTl (by decide))) dX6_laysRow_100 ml_X6_183 im_X6_isPlain (((sT_emM (meM M n T) 0 13 8 (l ++ [(16 + (16 * 2)) + (nI k)] ++ [nI z])).TR ((sT_meM M n T).TR hT)).s 0 (by decide)) (((sT_emM (meM M n T) 0 13 8 (l ++ [(16 + (16 * 2)) + (nI k)] ++ [nI z])).TR ((sT_meM M n T).TR hT)).n 0 (by decide)) rfl rfl (dl1 (d := d) (by omega)) rfl rfl (Nat.le_of_ble_eq_true rfl) rfl rfl (Nat.zero_le _) (Nat.zero_le _) ?_
    refine aw_if_eq 115 dX6_laysRow_103 (by decide) (fun c5 => absurd c5 (bz_n0.mpr ((pln_k (M := (emM (meM M n T) 0 13 8 (l ++ [(16 + (16 * 2)) + (nI k)] ++ [nI z]))) hTl (by omega) ((congrFun (emM_I (meM M n T) (l ++ [(16 + (16 * 2)) + (nI k)] ++ [nI z]) (show (1 : Nat) ≠ 0 by decide) (show (1 : Nat) ≠ 8 by decide)) T).trans hkm)).trans (decide_eq_true hk8)))) (fun c5 => ?_)
    refine aw_aload_n dX6_laysRow_106 1 rfl ?_
    refine aw_iload_n dX6_laysRow_107 2 rfl ?_
    refine aw_iload_n dX6_laysRow_108 0 rfl ?_
    refine aw_callVv [.int (nI T), .int 2] [] (sp_lp2 (d := d - 1) (by omega) (l := l ++ [(16 + (16 * 2)) + (nI k)] ++ [nI z]) k z T V ((sT_meM M n T).TR hT) hk8 hTl hkm hzm hz2 hV hok (by first | omega | (simp only [List.length_append, List.length_cons, List.length_nil, byB_len] at *; omega))) dX6_laysRow_109 ml_X6_264 im_X6_laysPlain (((sT_emM (meM M n T) 0 13 8 (l ++ [(16 + (16 * 2)) + (nI k)] ++ [nI z])).TR ((sT_meM M n T).TR hT)).s 0 (by decide)) (((sT_emM (meM M n T) 0 13 8 (l ++ [(16 + (16 * 2)) + (nI k)] ++ [nI z])).TR ((sT_meM M n T).TR hT)).n 0 (by decide)) rfl rfl (dl1 (d := d) (by omega)) rfl rfl (Nat.le_of_ble_eq_true rfl) rfl rfl (Nat.zero_le _) (Nat.zero_le _) ?_
    refine aw_goto 145 dX6_laysRow_112 (by decide) ?_
    refine aw_ret dX6_laysRow_145 rfl (Nat.zero_le _) (Nat.zero_le _) ?_
    exact ⟨rfl, by rw [show (16 : Int32) + 16 * 2 + nI k = nI (16 + 16 * 2 + k) from nI_add (16 + 16 * 2) k]⟩
  · obtain ⟨rfl, h⟩ := h
    have ef : foP 2 k = 0 := if_pos ⟨rfl, by omega⟩
    have e : prB 2 k z V = [nI (16 + 16 * 0 + k), nI z] ++ flB k V z 0 := by unfold prB; rw [ef]; rfl
    have e3 : l ++ [nI (16 + 16 * 0 + k)] ++ [nI z] ++ flB k V z 0 = l ++ prB 2 k z V := by rw [e]; simp
    rw [← e3]
    refine aw_aload_n dX6_laysRow_0 0 rfl ?_
    refine aw_getR (b := 10) dX6_laysRow_1 fl_X6_42 rfl (((sT_emM M 0 13 8 l).TR hT).s 0 (by decide)) (((sT_emM M 0 13 8 l).TR hT).n 0 (by decide)) (((sT_emM M 0 13 8 l).TR hT).r 16) ?_
    refine aw_iload_n dX6_laysRow_4 1 rfl ?_
    refine aw_aload_n dX6_laysRow_5 0 rfl ?_
    refine aw_getI dX6_laysRow_6 fl_X6_261 (((sT_emM M 0 13 8 l).TR hT).s 0 (by decide)) (((sT_emM M 0 13 8 l).TR hT).n 0 (by decide)) ?_
    refine aw_topE ((emM_a M l (show (17 : Nat) ≠ 13 by decide) (show (0 : Nat) ≠ 8 by decide)).trans hn) ?_
    refine aw_iastN T dX6_laysRow_9 (((sT_emM M 0 13 8 l).TR hT).s 10 (by decide)) (((sT_emM M 0 13 8 l).TR hT).n 10 (by decide)) rfl (by omega) (by first | decide | omega) ?_
    refine aw_aload_n dX6_laysRow_10 0 rfl ?_
    refine aw_getR (b := 11) dX6_laysRow_11 fl_X6_45 rfl (((sT_emM M 0 13 8 l).TR hT).s 0 (by decide)) (((sT_emM M 0 13 8 l).TR hT).n 0 (by decide)) (((sT_emM M 0 13 8 l).TR hT).r 18) ?_
    refine aw_aload_n dX6_laysRow_14 0 rfl ?_
    refine aw_getI dX6_laysRow_15 fl_X6_261 (((sT_emM M 0 13 8 l).TR hT).s 0 (by decide)) (((sT_emM M 0 13 8 l).TR hT).n 0 (by decide)) ?_
    refine aw_topE ((congrFun (mI_stI_c _ _ _ (show (0 : Nat) ≠ 10 by decide)) 17).trans ((emM_a M l (show (17 : Nat) ≠ 13 by decide) (show (0 : Nat) ≠ 8 by decide)).trans hn)) ?_
    refine aw_iload_n dX6_laysRow_18 1 rfl ?_
    refine aw_iastN n dX6_laysRow_19 (((sT_emM M 0 13 8 l).TR hT).s 11 (by decide)) (((sT_emM M 0 13 8 l).TR hT).n 11 (by decide)) rfl (by omega) (by first | decide | omega) ?_
    refine aw_aload_n dX6_laysRow_20 0 rfl ?_
    refine aw_dup dX6_laysRow_21 rfl ?_
    refine aw_getI dX6_laysRow_22 fl_X6_261 (((sT_emM M 0 13 8 l).TR hT).s 0 (by decide)) (((sT_emM M 0 13 8 l).TR hT).n 0 (by decide)) ?_
    refine aw_topE ((congrFun (mI_stI_c _ _ _ (show (0 : Nat) ≠ 11 by decide)) 17).trans ((congrFun (mI_stI_c _ _ _ (show (0 : Nat) ≠ 10 by decide)) 17).trans ((emM_a M l (show (17 : Nat) ≠ 13 by decide) (show (0 : Nat) ≠ 8 by decide)).trans hn))) ?_
    refine aw_iconst (v := 1) dX6_laysRow_25 (by decide) ?_
    refine aw_iaddN n 1 dX6_laysRow_26 rfl rfl ?_
    refine aw_putI dX6_laysRow_27 fl_X6_261 (Or.inl rfl) (((sT_emM M 0 13 8 l).TR hT).s 0 (by decide)) (((sT_emM M 0 13 8 l).TR hT).n 0 (by decide)) ?_
    refine aw_eqM (meM_e M n T l) ?_
    refine aw_aload_n dX6_laysRow_30 0 rfl ?_
    refine aw_iload_n dX6_laysRow_31 1 rfl ?_
    refine aw_callVi [.int (nI T)] [] (sp_X6_isPlain (d := d - 1) (by omega) (nI T) ((sT_emM (meM M n T) 0 13 8 l).TR ((sT_meM M n T).TR hT)) (vp_in_nI hTl (by decide))) dX6_laysRow_32 ml_X6_183 im_X6_isPlain (((sT_emM (meM M n T) 0 13 8 l).TR ((sT_meM M n T).TR hT)).s 0 (by decide)) (((sT_emM (meM M n T) 0 13 8 l).TR ((sT_meM M n T).TR hT)).n 0 (by decide)) rfl rfl (dl1 (d := d) (by omega)) rfl rfl (Nat.le_of_ble_eq_true rfl) rfl rfl (Nat.zero_le _) (Nat.zero_le _) ?_
    refine aw_if_eq 42 dX6_laysRow_35 (by decide) (fun c1 => absurd c1 (bz_n0.mpr ((pln_k (M := (emM (meM M n T) 0 13 8 l)) hTl (by omega) ((congrFun (emM_I (meM M n T) l (show (1 : Nat) ≠ 0 by decide) (show (1 : Nat) ≠ 8 by decide)) T).trans hkm)).trans (decide_eq_true hk8)))) (fun c1 => ?_)
    refine aw_iload_n dX6_laysRow_38 2 rfl ?_
    refine aw_goto 43 dX6_laysRow_39 (by decide) ?_
    refine aw_istore_n [(3, .int 2), (0, .ref 0), (1, .int (nI T)), (2, .int 2)] dX6_laysRow_43 (Nat.le_of_ble_eq_true rfl) rfl ?_
    refine aw_iload_n dX6_laysRow_44 0 rfl ?_
    refine aw_iconst (v := 2) dX6_laysRow_45 (by decide) ?_
    refine aw_icmp_ne 70 dX6_laysRow_46 (by decide) (fun c2 => absurd rfl c2) (fun c2 => ?_)
    refine aw_aload_n dX6_laysRow_49 1 rfl ?_
    refine aw_getR (b := 1) dX6_laysRow_50 fl_X6_7 rfl (((sT_emM (meM M n T) 0 13 8 l).TR ((sT_meM M n T).TR hT)).s 0 (by decide)) (((sT_emM (meM M n T) 0 13 8 l).TR ((sT_meM M n T).TR hT)).n 0 (by decide)) (((sT_emM (meM M n T) 0 13 8 l).TR ((sT_meM M n T).TR hT)).r 0) ?_
    refine aw_iload_n dX6_laysRow_53 2 rfl ?_
    refine aw_ialdN T dX6_laysRow_54 (((sT_emM (meM M n T) 0 13 8 l).TR ((sT_meM M n T).TR hT)).s 1 (by decide)) (((sT_emM (meM M n T) 0 13 8 l).TR ((sT_meM M n T).TR hT)).n 1 (by decide)) rfl (by omega) (by first | decide | omega) ?_
    refine aw_topE ((congrFun (emM_I (meM M n T) l (show (1 : Nat) ≠ 0 by decide) (show (1 : Nat) ≠ 8 by decide)) T).trans ((congrFun (meM_I M (show (1 : Nat) ≠ 0 by decide) (show (1 : Nat) ≠ 10 by decide) (show (1 : Nat) ≠ 11 by decide)) T).trans hk)) ?_
    refine aw_if_eq 68 dX6_laysRow_55 (by decide) (fun c3 => ?_) (fun c3 => absurd (by rw [h]; rfl) c3)
    refine aw_iconst (v := 0) dX6_laysRow_68 (by decide) ?_
    refine aw_istore_n [(3, .int 0), (0, .ref 0), (1, .int (nI T)), (2, .int 2)] dX6_laysRow_69 (Nat.le_of_ble_eq_true rfl) rfl ?_
    refine aw_aload_n dX6_laysRow_70 1 rfl ?_
    refine aw_bipush (v := 16) dX6_laysRow_71 (by decide) ?_
    refine aw_bipush (v := 16) dX6_laysRow_73 (by decide) ?_
    refine aw_iload_n dX6_laysRow_75 0 rfl ?_
    refine aw_imul dX6_laysRow_76 ?_
    refine aw_iadd dX6_laysRow_77 ?_
    refine aw_aload_n dX6_laysRow_78 1 rfl ?_
    refine aw_getR (b := 1) dX6_laysRow_79 fl_X6_7 rfl (((sT_emM (meM M n T) 0 13 8 l).TR ((sT_meM M n T).TR hT)).s 0 (by decide)) (((sT_emM (meM M n T) 0 13 8 l).TR ((sT_meM M n T).TR hT)).n 0 (by decide)) (((sT_emM (meM M n T) 0 13 8 l).TR ((sT_meM M n T).TR hT)).r 0) ?_
    refine aw_iload_n dX6_laysRow_82 2 rfl ?_
    refine aw_ialdN T dX6_laysRow_83 (((sT_emM (meM M n T) 0 13 8 l).TR ((sT_meM M n T).TR hT)).s 1 (by decide)) (((sT_emM (meM M n T) 0 13 8 l).TR ((sT_meM M n T).TR hT)).n 1 (by decide)) rfl (by omega) (by first | decide | omega) ?_
    refine aw_topE ((congrFun (emM_I (meM M n T) l (show (1 : Nat) ≠ 0 by decide) (show (1 : Nat) ≠ 8 by decide)) T).trans ((congrFun (meM_I M (show (1 : Nat) ≠ 0 by decide) (show (1 : Nat) ≠ 10 by decide) (show (1 : Nat) ≠ 11 by decide)) T).trans hk)) ?_
    refine aw_iadd dX6_laysRow_84 ?_
    refine aw_callVv [.int ((16 + (16 * 0)) + (nI k))] [] (sp_ls (d := d - 1) (by omega) (l := l) ((16 + (16 * 0)) + (nI k)) ((sT_meM M n T).TR hT) (by first | omega | (simp only [List.length_append, List.length_cons, List.length_nil, byB_len] at *; omega))) dX6_laysRow_85 ml_X6_240 im_X6_lays (((sT_emM (meM M n T) 0 13 8 l).TR ((sT_meM M n T).TR hT)).s 0 (by decide)) (((sT_emM (meM M n T) 0 13 8 l).TR ((sT_meM M n T).TR hT)).n 0 (by decide)) rfl rfl (dl1 (d := d) (by omega)) rfl rfl (Nat.le_of_ble_eq_true rfl) rfl rfl (Nat.zero_le _) (Nat.zero_le _) ?_
    refine aw_aload_n dX6_laysRow_88 1 rfl ?_
    refine aw_aload_n dX6_laysRow_89 1 rfl ?_
    refine aw_getR (b := 2) dX6_laysRow_90 fl_X6_13 rfl (((sT_emM (meM M n T) 0 13 8 (l ++ [(16 + (16 * 0)) + (nI k)])).TR ((sT_meM M n T).TR hT)).s 0 (by decide)) (((sT_emM (meM M n T) 0 13 8 (l ++ [(16 + (16 * 0)) + (nI k)])).TR ((sT_meM M n T).TR hT)).n 0 (by decide)) (((sT_emM (meM M n T) 0 13 8 (l ++ [(16 + (16 * 0)) + (nI k)])).TR ((sT_meM M n T).TR hT)).r 1) ?_
    refine aw_iload_n dX6_laysRow_93 2 rfl ?_
    refine aw_ialdN T dX6_laysRow_94 (((sT_emM (meM M n T) 0 13 8 (l ++ [(16 + (16 * 0)) + (nI k)])).TR ((sT_meM M n T).TR hT)).s 2 (by decide)) (((sT_emM (meM M n T) 0 13 8 (l ++ [(16 + (16 * 0)) + (nI k)])).TR ((sT_meM M n T).TR hT)).n 2 (by decide)) rfl (by omega) (by first | decide | omega) ?_
    refine aw_topE ((congrFun (emM_I (meM M n T) (l ++ [(16 + (16 * 0)) + (nI k)]) (show (2 : Nat) ≠ 0 by decide) (show (2 : Nat) ≠ 8 by decide)) T).trans ((congrFun (meM_I M (show (2 : Nat) ≠ 0 by decide) (show (2 : Nat) ≠ 10 by decide) (show (2 : Nat) ≠ 11 by decide)) T).trans hz)) ?_
    refine aw_callVv [.int (nI z)] [] (sp_ls (d := d - 1) (by omega) (l := l ++ [(16 + (16 * 0)) + (nI k)]) (nI z) ((sT_meM M n T).TR hT) (by first | omega | (simp only [List.length_append, List.length_cons, List.length_nil, byB_len] at *; omega))) dX6_laysRow_95 ml_X6_240 im_X6_lays (((sT_emM (meM M n T) 0 13 8 (l ++ [(16 + (16 * 0)) + (nI k)])).TR ((sT_meM M n T).TR hT)).s 0 (by decide)) (((sT_emM (meM M n T) 0 13 8 (l ++ [(16 + (16 * 0)) + (nI k)])).TR ((sT_meM M n T).TR hT)).n 0 (by decide)) rfl rfl (dl1 (d := d) (by omega)) rfl rfl (Nat.le_of_ble_eq_true rfl) rfl rfl (Nat.zero_le _) (Nat.zero_le _) ?_
    refine aw_aload_n dX6_laysRow_98 1 rfl ?_
    refine aw_iload_n dX6_laysRow_99 2 rfl ?_
    refine aw_callVi [.int (nI T)] [] (sp_X6_isPlain (d := d - 1) (by omega) (nI T) ((sT_emM (meM M n T) 0 13 8 (l ++ [(16 + (16 * 0)) + (nI k)] ++ [nI z])).TR ((sT_meM M n T).TR hT)) (vp_in_nI hTl (by decide))) dX6_laysRow_100 ml_X6_183 im_X6_isPlain (((sT_emM (meM M n T) 0 13 8 (l ++ [(16 + (16 * 0)) + (nI k)] ++ [nI z])).TR ((sT_meM M n T).TR hT)).s 0 (by decide)) (((sT_emM (meM M n T) 0 13 8 (l ++ [(16 + (16 * 0)) + (nI k)] ++ [nI z])).TR ((sT_meM M n T).TR hT)).n 0 (by decide)) rfl rfl (dl1 (d := d) (by omega)) rfl rfl (Nat.le_of_ble_eq_true rfl) rfl rfl (Nat.zero_le _) (Nat.zero_le _) ?_
    refine aw_if_eq 115 dX6_laysRow_103 (by decide) (fun c4 => absurd c4 (bz_n0.mpr ((pln_k (M := (emM (meM M n T) 0 13 8 (l ++ [(16 + (16 * 0)) + (nI k)] ++ [nI z]))) hTl (by omega) ((congrFun (emM_I (meM M n T) (l ++ [(16 + (16 * 0)) + (nI k)] ++ [nI z]) (show (1 : Nat) ≠ 0 by decide) (show (1 : Nat) ≠ 8 by decide)) T).trans hkm)).trans (decide_eq_true hk8)))) (fun c4 => ?_)
    refine aw_aload_n dX6_laysRow_106 1 rfl ?_
    refine aw_iload_n dX6_laysRow_107 2 rfl ?_
    refine aw_iload_n dX6_laysRow_108 0 rfl ?_
    refine aw_callVv [.int (nI T), .int 0] [] (sp_lp0 (d := d - 1) (by omega) (l := l ++ [(16 + (16 * 0)) + (nI k)] ++ [nI z]) k z T V ((sT_meM M n T).TR hT) hk8 hTl hkm hzm hz2 hV hok (by first | omega | (simp only [List.length_append, List.length_cons, List.length_nil, byB_len] at *; omega))) dX6_laysRow_109 ml_X6_264 im_X6_laysPlain (((sT_emM (meM M n T) 0 13 8 (l ++ [(16 + (16 * 0)) + (nI k)] ++ [nI z])).TR ((sT_meM M n T).TR hT)).s 0 (by decide)) (((sT_emM (meM M n T) 0 13 8 (l ++ [(16 + (16 * 0)) + (nI k)] ++ [nI z])).TR ((sT_meM M n T).TR hT)).n 0 (by decide)) rfl rfl (dl1 (d := d) (by omega)) rfl rfl (Nat.le_of_ble_eq_true rfl) rfl rfl (Nat.zero_le _) (Nat.zero_le _) ?_
    refine aw_goto 145 dX6_laysRow_112 (by decide) ?_
    refine aw_ret dX6_laysRow_145 rfl (Nat.zero_le _) (Nat.zero_le _) ?_
    exact ⟨rfl, by rw [show (16 : Int32) + 16 * 0 + nI k = nI (16 + 16 * 0 + k) from nI_add (16 + 16 * 0) k]⟩
  · obtain ⟨rfl, h⟩ := h
    have ef : foP 2 k = 0 := if_pos ⟨rfl, by omega⟩
    have e : prB 2 k z V = [nI (16 + 16 * 0 + k), nI z] ++ flB k V z 0 := by unfold prB; rw [ef]; rfl
    have e3 : l ++ [nI (16 + 16 * 0 + k)] ++ [nI z] ++ flB k V z 0 = l ++ prB 2 k z V := by rw [e]; simp
    rw [← e3]
    refine aw_aload_n dX6_laysRow_0 0 rfl ?_
    refine aw_getR (b := 10) dX6_laysRow_1 fl_X6_42 rfl (((sT_emM M 0 13 8 l).TR hT).s 0 (by decide)) (((sT_emM M 0 13 8 l).TR hT).n 0 (by decide)) (((sT_emM M 0 13 8 l).TR hT).r 16) ?_
    refine aw_iload_n dX6_laysRow_4 1 rfl ?_
    refine aw_aload_n dX6_laysRow_5 0 rfl ?_
    refine aw_getI dX6_laysRow_6 fl_X6_261 (((sT_emM M 0 13 8 l).TR hT).s 0 (by decide)) (((sT_emM M 0 13 8 l).TR hT).n 0 (by decide)) ?_
    refine aw_topE ((emM_a M l (show (17 : Nat) ≠ 13 by decide) (show (0 : Nat) ≠ 8 by decide)).trans hn) ?_
    refine aw_iastN T dX6_laysRow_9 (((sT_emM M 0 13 8 l).TR hT).s 10 (by decide)) (((sT_emM M 0 13 8 l).TR hT).n 10 (by decide)) rfl (by omega) (by first | decide | omega) ?_
    refine aw_aload_n dX6_laysRow_10 0 rfl ?_
    refine aw_getR (b := 11) dX6_laysRow_11 fl_X6_45 rfl (((sT_emM M 0 13 8 l).TR hT).s 0 (by decide)) (((sT_emM M 0 13 8 l).TR hT).n 0 (by decide)) (((sT_emM M 0 13 8 l).TR hT).r 18) ?_
    refine aw_aload_n dX6_laysRow_14 0 rfl ?_
    refine aw_getI dX6_laysRow_15 fl_X6_261 (((sT_emM M 0 13 8 l).TR hT).s 0 (by decide)) (((sT_emM M 0 13 8 l).TR hT).n 0 (by decide)) ?_
    refine aw_topE ((congrFun (mI_stI_c _ _ _ (show (0 : Nat) ≠ 10 by decide)) 17).trans ((emM_a M l (show (17 : Nat) ≠ 13 by decide) (show (0 : Nat) ≠ 8 by decide)).trans hn)) ?_
    refine aw_iload_n dX6_laysRow_18 1 rfl ?_
    refine aw_iastN n dX6_laysRow_19 (((sT_emM M 0 13 8 l).TR hT).s 11 (by decide)) (((sT_emM M 0 13 8 l).TR hT).n 11 (by decide)) rfl (by omega) (by first | decide | omega) ?_
    refine aw_aload_n dX6_laysRow_20 0 rfl ?_
    refine aw_dup dX6_laysRow_21 rfl ?_
    refine aw_getI dX6_laysRow_22 fl_X6_261 (((sT_emM M 0 13 8 l).TR hT).s 0 (by decide)) (((sT_emM M 0 13 8 l).TR hT).n 0 (by decide)) ?_
    refine aw_topE ((congrFun (mI_stI_c _ _ _ (show (0 : Nat) ≠ 11 by decide)) 17).trans ((congrFun (mI_stI_c _ _ _ (show (0 : Nat) ≠ 10 by decide)) 17).trans ((emM_a M l (show (17 : Nat) ≠ 13 by decide) (show (0 : Nat) ≠ 8 by decide)).trans hn))) ?_
    refine aw_iconst (v := 1) dX6_laysRow_25 (by decide) ?_
    refine aw_iaddN n 1 dX6_laysRow_26 rfl rfl ?_
    refine aw_putI dX6_laysRow_27 fl_X6_261 (Or.inl rfl) (((sT_emM M 0 13 8 l).TR hT).s 0 (by decide)) (((sT_emM M 0 13 8 l).TR hT).n 0 (by decide)) ?_
    refine aw_eqM (meM_e M n T l) ?_
    refine aw_aload_n dX6_laysRow_30 0 rfl ?_
    refine aw_iload_n dX6_laysRow_31 1 rfl ?_
    refine aw_callVi [.int (nI T)] [] (sp_X6_isPlain (d := d - 1) (by omega) (nI T) ((sT_emM (meM M n T) 0 13 8 l).TR ((sT_meM M n T).TR hT)) (vp_in_nI hTl (by decide))) dX6_laysRow_32 ml_X6_183 im_X6_isPlain (((sT_emM (meM M n T) 0 13 8 l).TR ((sT_meM M n T).TR hT)).s 0 (by decide)) (((sT_emM (meM M n T) 0 13 8 l).TR ((sT_meM M n T).TR hT)).n 0 (by decide)) rfl rfl (dl1 (d := d) (by omega)) rfl rfl (Nat.le_of_ble_eq_true rfl) rfl rfl (Nat.zero_le _) (Nat.zero_le _) ?_
    refine aw_if_eq 42 dX6_laysRow_35 (by decide) (fun c1 => absurd c1 (bz_n0.mpr ((pln_k (M := (emM (meM M n T) 0 13 8 l)) hTl (by omega) ((congrFun (emM_I (meM M n T) l (show (1 : Nat) ≠ 0 by decide) (show (1 : Nat) ≠ 8 by decide)) T).trans hkm)).trans (decide_eq_true hk8)))) (fun c1 => ?_)
    refine aw_iload_n dX6_laysRow_38 2 rfl ?_
    refine aw_goto 43 dX6_laysRow_39 (by decide) ?_
    refine aw_istore_n [(3, .int 2), (0, .ref 0), (1, .int (nI T)), (2, .int 2)] dX6_laysRow_43 (Nat.le_of_ble_eq_true rfl) rfl ?_
    refine aw_iload_n dX6_laysRow_44 0 rfl ?_
    refine aw_iconst (v := 2) dX6_laysRow_45 (by decide) ?_
    refine aw_icmp_ne 70 dX6_laysRow_46 (by decide) (fun c2 => absurd rfl c2) (fun c2 => ?_)
    refine aw_aload_n dX6_laysRow_49 1 rfl ?_
    refine aw_getR (b := 1) dX6_laysRow_50 fl_X6_7 rfl (((sT_emM (meM M n T) 0 13 8 l).TR ((sT_meM M n T).TR hT)).s 0 (by decide)) (((sT_emM (meM M n T) 0 13 8 l).TR ((sT_meM M n T).TR hT)).n 0 (by decide)) (((sT_emM (meM M n T) 0 13 8 l).TR ((sT_meM M n T).TR hT)).r 0) ?_
    refine aw_iload_n dX6_laysRow_53 2 rfl ?_
    refine aw_ialdN T dX6_laysRow_54 (((sT_emM (meM M n T) 0 13 8 l).TR ((sT_meM M n T).TR hT)).s 1 (by decide)) (((sT_emM (meM M n T) 0 13 8 l).TR ((sT_meM M n T).TR hT)).n 1 (by decide)) rfl (by omega) (by first | decide | omega) ?_
    refine aw_topE ((congrFun (emM_I (meM M n T) l (show (1 : Nat) ≠ 0 by decide) (show (1 : Nat) ≠ 8 by decide)) T).trans ((congrFun (meM_I M (show (1 : Nat) ≠ 0 by decide) (show (1 : Nat) ≠ 10 by decide) (show (1 : Nat) ≠ 11 by decide)) T).trans hk)) ?_
    refine aw_if_eq 68 dX6_laysRow_55 (by decide) (fun c3 => absurd ((nI_00 (by omega)).mp c3) (by omega)) (fun c3 => ?_)
    refine aw_aload_n dX6_laysRow_58 1 rfl ?_
    refine aw_getR (b := 1) dX6_laysRow_59 fl_X6_7 rfl (((sT_emM (meM M n T) 0 13 8 l).TR ((sT_meM M n T).TR hT)).s 0 (by decide)) (((sT_emM (meM M n T) 0 13 8 l).TR ((sT_meM M n T).TR hT)).n 0 (by decide)) (((sT_emM (meM M n T) 0 13 8 l).TR ((sT_meM M n T).TR hT)).r 0) ?_
    refine aw_iload_n dX6_laysRow_62 2 rfl ?_
    refine aw_ialdN T dX6_laysRow_63 (((sT_emM (meM M n T) 0 13 8 l).TR ((sT_meM M n T).TR hT)).s 1 (by decide)) (((sT_emM (meM M n T) 0 13 8 l).TR ((sT_meM M n T).TR hT)).n 1 (by decide)) rfl (by omega) (by first | decide | omega) ?_
    refine aw_topE ((congrFun (emM_I (meM M n T) l (show (1 : Nat) ≠ 0 by decide) (show (1 : Nat) ≠ 8 by decide)) T).trans ((congrFun (meM_I M (show (1 : Nat) ≠ 0 by decide) (show (1 : Nat) ≠ 10 by decide) (show (1 : Nat) ≠ 11 by decide)) T).trans hk)) ?_
    refine aw_iconst (v := 5) dX6_laysRow_64 (by decide) ?_
    refine aw_icmp_leN k 5 70 dX6_laysRow_65 (by decide) rfl rfl (by omega) (by omega) (fun c4 => absurd c4 (by omega)) (fun c4 => ?_)
    refine aw_iconst (v := 0) dX6_laysRow_68 (by decide) ?_
    refine aw_istore_n [(3, .int 0), (0, .ref 0), (1, .int (nI T)), (2, .int 2)] dX6_laysRow_69 (Nat.le_of_ble_eq_true rfl) rfl ?_
    refine aw_aload_n dX6_laysRow_70 1 rfl ?_
    refine aw_bipush (v := 16) dX6_laysRow_71 (by decide) ?_
    refine aw_bipush (v := 16) dX6_laysRow_73 (by decide) ?_
    refine aw_iload_n dX6_laysRow_75 0 rfl ?_
    refine aw_imul dX6_laysRow_76 ?_
    refine aw_iadd dX6_laysRow_77 ?_
    refine aw_aload_n dX6_laysRow_78 1 rfl ?_
    refine aw_getR (b := 1) dX6_laysRow_79 fl_X6_7 rfl (((sT_emM (meM M n T) 0 13 8 l).TR ((sT_meM M n T).TR hT)).s 0 (by decide)) (((sT_emM (meM M n T) 0 13 8 l).TR ((sT_meM M n T).TR hT)).n 0 (by decide)) (((sT_emM (meM M n T) 0 13 8 l).TR ((sT_meM M n T).TR hT)).r 0) ?_
    refine aw_iload_n dX6_laysRow_82 2 rfl ?_
    refine aw_ialdN T dX6_laysRow_83 (((sT_emM (meM M n T) 0 13 8 l).TR ((sT_meM M n T).TR hT)).s 1 (by decide)) (((sT_emM (meM M n T) 0 13 8 l).TR ((sT_meM M n T).TR hT)).n 1 (by decide)) rfl (by omega) (by first | decide | omega) ?_
    refine aw_topE ((congrFun (emM_I (meM M n T) l (show (1 : Nat) ≠ 0 by decide) (show (1 : Nat) ≠ 8 by decide)) T).trans ((congrFun (meM_I M (show (1 : Nat) ≠ 0 by decide) (show (1 : Nat) ≠ 10 by decide) (show (1 : Nat) ≠ 11 by decide)) T).trans hk)) ?_
    refine aw_iadd dX6_laysRow_84 ?_
    refine aw_callVv [.int ((16 + (16 * 0)) + (nI k))] [] (sp_ls (d := d - 1) (by omega) (l := l) ((16 + (16 * 0)) + (nI k)) ((sT_meM M n T).TR hT) (by first | omega | (simp only [List.length_append, List.length_cons, List.length_nil, byB_len] at *; omega))) dX6_laysRow_85 ml_X6_240 im_X6_lays (((sT_emM (meM M n T) 0 13 8 l).TR ((sT_meM M n T).TR hT)).s 0 (by decide)) (((sT_emM (meM M n T) 0 13 8 l).TR ((sT_meM M n T).TR hT)).n 0 (by decide)) rfl rfl (dl1 (d := d) (by omega)) rfl rfl (Nat.le_of_ble_eq_true rfl) rfl rfl (Nat.zero_le _) (Nat.zero_le _) ?_
    refine aw_aload_n dX6_laysRow_88 1 rfl ?_
    refine aw_aload_n dX6_laysRow_89 1 rfl ?_
    refine aw_getR (b := 2) dX6_laysRow_90 fl_X6_13 rfl (((sT_emM (meM M n T) 0 13 8 (l ++ [(16 + (16 * 0)) + (nI k)])).TR ((sT_meM M n T).TR hT)).s 0 (by decide)) (((sT_emM (meM M n T) 0 13 8 (l ++ [(16 + (16 * 0)) + (nI k)])).TR ((sT_meM M n T).TR hT)).n 0 (by decide)) (((sT_emM (meM M n T) 0 13 8 (l ++ [(16 + (16 * 0)) + (nI k)])).TR ((sT_meM M n T).TR hT)).r 1) ?_
    refine aw_iload_n dX6_laysRow_93 2 rfl ?_
    refine aw_ialdN T dX6_laysRow_94 (((sT_emM (meM M n T) 0 13 8 (l ++ [(16 + (16 * 0)) + (nI k)])).TR ((sT_meM M n T).TR hT)).s 2 (by decide)) (((sT_emM (meM M n T) 0 13 8 (l ++ [(16 + (16 * 0)) + (nI k)])).TR ((sT_meM M n T).TR hT)).n 2 (by decide)) rfl (by omega) (by first | decide | omega) ?_
    refine aw_topE ((congrFun (emM_I (meM M n T) (l ++ [(16 + (16 * 0)) + (nI k)]) (show (2 : Nat) ≠ 0 by decide) (show (2 : Nat) ≠ 8 by decide)) T).trans ((congrFun (meM_I M (show (2 : Nat) ≠ 0 by decide) (show (2 : Nat) ≠ 10 by decide) (show (2 : Nat) ≠ 11 by decide)) T).trans hz)) ?_
    refine aw_callVv [.int (nI z)] [] (sp_ls (d := d - 1) (by omega) (l := l ++ [(16 + (16 * 0)) + (nI k)]) (nI z) ((sT_meM M n T).TR hT) (by first | omega | (simp only [List.length_append, List.length_cons, List.length_nil, byB_len] at *; omega))) dX6_laysRow_95 ml_X6_240 im_X6_lays (((sT_emM (meM M n T) 0 13 8 (l ++ [(16 + (16 * 0)) + (nI k)])).TR ((sT_meM M n T).TR hT)).s 0 (by decide)) (((sT_emM (meM M n T) 0 13 8 (l ++ [(16 + (16 * 0)) + (nI k)])).TR ((sT_meM M n T).TR hT)).n 0 (by decide)) rfl rfl (dl1 (d := d) (by omega)) rfl rfl (Nat.le_of_ble_eq_true rfl) rfl rfl (Nat.zero_le _) (Nat.zero_le _) ?_
    refine aw_aload_n dX6_laysRow_98 1 rfl ?_
    refine aw_iload_n dX6_laysRow_99 2 rfl ?_
    refine aw_callVi [.int (nI T)] [] (sp_X6_isPlain (d := d - 1) (by omega) (nI T) ((sT_emM (meM M n T) 0 13 8 (l ++ [(16 + (16 * 0)) + (nI k)] ++ [nI z])).TR ((sT_meM M n T).TR hT)) (vp_in_nI hTl (by decide))) dX6_laysRow_100 ml_X6_183 im_X6_isPlain (((sT_emM (meM M n T) 0 13 8 (l ++ [(16 + (16 * 0)) + (nI k)] ++ [nI z])).TR ((sT_meM M n T).TR hT)).s 0 (by decide)) (((sT_emM (meM M n T) 0 13 8 (l ++ [(16 + (16 * 0)) + (nI k)] ++ [nI z])).TR ((sT_meM M n T).TR hT)).n 0 (by decide)) rfl rfl (dl1 (d := d) (by omega)) rfl rfl (Nat.le_of_ble_eq_true rfl) rfl rfl (Nat.zero_le _) (Nat.zero_le _) ?_
    refine aw_if_eq 115 dX6_laysRow_103 (by decide) (fun c5 => absurd c5 (bz_n0.mpr ((pln_k (M := (emM (meM M n T) 0 13 8 (l ++ [(16 + (16 * 0)) + (nI k)] ++ [nI z]))) hTl (by omega) ((congrFun (emM_I (meM M n T) (l ++ [(16 + (16 * 0)) + (nI k)] ++ [nI z]) (show (1 : Nat) ≠ 0 by decide) (show (1 : Nat) ≠ 8 by decide)) T).trans hkm)).trans (decide_eq_true hk8)))) (fun c5 => ?_)
    refine aw_aload_n dX6_laysRow_106 1 rfl ?_
    refine aw_iload_n dX6_laysRow_107 2 rfl ?_
    refine aw_iload_n dX6_laysRow_108 0 rfl ?_
    refine aw_callVv [.int (nI T), .int 0] [] (sp_lp0 (d := d - 1) (by omega) (l := l ++ [(16 + (16 * 0)) + (nI k)] ++ [nI z]) k z T V ((sT_meM M n T).TR hT) hk8 hTl hkm hzm hz2 hV hok (by first | omega | (simp only [List.length_append, List.length_cons, List.length_nil, byB_len] at *; omega))) dX6_laysRow_109 ml_X6_264 im_X6_laysPlain (((sT_emM (meM M n T) 0 13 8 (l ++ [(16 + (16 * 0)) + (nI k)] ++ [nI z])).TR ((sT_meM M n T).TR hT)).s 0 (by decide)) (((sT_emM (meM M n T) 0 13 8 (l ++ [(16 + (16 * 0)) + (nI k)] ++ [nI z])).TR ((sT_meM M n T).TR hT)).n 0 (by decide)) rfl rfl (dl1 (d := d) (by omega)) rfl rfl (Nat.le_of_ble_eq_true rfl) rfl rfl (Nat.zero_le _) (Nat.zero_le _) ?_
    refine aw_goto 145 dX6_laysRow_112 (by decide) ?_
    refine aw_ret dX6_laysRow_145 rfl (Nat.zero_le _) (Nat.zero_le _) ?_
    exact ⟨rfl, by rw [show (16 : Int32) + 16 * 0 + nI k = nI (16 + 16 * 0 + k) from nI_add (16 + 16 * 0) k]⟩
theorem sp_lrO {d : Nat} (hd : 5 ≤ d) {M : xM} {l : List Int32} {m n p k z T : Nat} (hm : m < 3) (hT : TR M) (hk8 : 8 ≤ k) (hk14 : k < 14) (hTl : T < 24) (hk : mI M 1 T = nI k) (hz : mI M 2 T = nI z) (hn : mI M 0 17 = nI n) (hn2 : n < 12) (hp : mI M 0 19 = nI p) (hp2 : p < 13) (hl : l.length + 2 ≤ 1500) : Sp (fX6_laysRow d) [.ref 0, .int (nI T), .int (nI m)] (emM M 0 13 8 l) (dt none (emM (puM (meM M n T) p T) 0 13 8 (l ++ [nI (16 + k), nI z]))) := by
  refine Sp.of pn_X6 (Nat.le_of_ble_eq_true rfl) (fun h => Bool.noConfusion h) ?_
  have hkm : mI (meM M n T) 1 T = nI k := (congrFun (meM_I M (show (1 : Nat) ≠ 0 by decide) (show (1 : Nat) ≠ 10 by decide) (show (1 : Nat) ≠ 11 by decide)) T).trans hk
  have hzm : mI (meM M n T) 2 T = nI z := (congrFun (meM_I M (show (2 : Nat) ≠ 0 by decide) (show (2 : Nat) ≠ 10 by decide) (show (2 : Nat) ≠ 11 by decide)) T).trans hz
  refine aw_aload_n dX6_laysRow_0 0 rfl ?_
  refine aw_getR (b := 10) dX6_laysRow_1 fl_X6_42 rfl (((sT_emM M 0 13 8 l).TR hT).s 0 (by decide)) (((sT_emM M 0 13 8 l).TR hT).n 0 (by decide)) (((sT_emM M 0 13 8 l).TR hT).r 16) ?_
  refine aw_iload_n dX6_laysRow_4 1 rfl ?_
  refine aw_aload_n dX6_laysRow_5 0 rfl ?_
  refine aw_getI dX6_laysRow_6 fl_X6_261 (((sT_emM M 0 13 8 l).TR hT).s 0 (by decide)) (((sT_emM M 0 13 8 l).TR hT).n 0 (by decide)) ?_
  refine aw_topE ((emM_a M l (show (17 : Nat) ≠ 13 by decide) (show (0 : Nat) ≠ 8 by decide)).trans hn) ?_
  refine aw_iastN T dX6_laysRow_9 (((sT_emM M 0 13 8 l).TR hT).s 10 (by decide)) (((sT_emM M 0 13 8 l).TR hT).n 10 (by decide)) rfl (by omega) (by first | decide | omega) ?_
  refine aw_aload_n dX6_laysRow_10 0 rfl ?_
  refine aw_getR (b := 11) dX6_laysRow_11 fl_X6_45 rfl (((sT_emM M 0 13 8 l).TR hT).s 0 (by decide)) (((sT_emM M 0 13 8 l).TR hT).n 0 (by decide)) (((sT_emM M 0 13 8 l).TR hT).r 18) ?_
  refine aw_aload_n dX6_laysRow_14 0 rfl ?_
  refine aw_getI dX6_laysRow_15 fl_X6_261 (((sT_emM M 0 13 8 l).TR hT).s 0 (by decide)) (((sT_emM M 0 13 8 l).TR hT).n 0 (by decide)) ?_
  refine aw_topE ((congrFun (mI_stI_c _ _ _ (show (0 : Nat) ≠ 10 by decide)) 17).trans ((emM_a M l (show (17 : Nat) ≠ 13 by decide) (show (0 : Nat) ≠ 8 by decide)).trans hn)) ?_
  refine aw_iload_n dX6_laysRow_18 1 rfl ?_
  refine aw_iastN n dX6_laysRow_19 (((sT_emM M 0 13 8 l).TR hT).s 11 (by decide)) (((sT_emM M 0 13 8 l).TR hT).n 11 (by decide)) rfl (by omega) (by first | decide | omega) ?_
  refine aw_aload_n dX6_laysRow_20 0 rfl ?_
  refine aw_dup dX6_laysRow_21 rfl ?_
  refine aw_getI dX6_laysRow_22 fl_X6_261 (((sT_emM M 0 13 8 l).TR hT).s 0 (by decide)) (((sT_emM M 0 13 8 l).TR hT).n 0 (by decide)) ?_
  refine aw_topE ((congrFun (mI_stI_c _ _ _ (show (0 : Nat) ≠ 11 by decide)) 17).trans ((congrFun (mI_stI_c _ _ _ (show (0 : Nat) ≠ 10 by decide)) 17).trans ((emM_a M l (show (17 : Nat) ≠ 13 by decide) (show (0 : Nat) ≠ 8 by decide)).trans hn))) ?_
  refine aw_iconst (v := 1) dX6_laysRow_25 (by decide) ?_
  refine aw_iaddN n 1 dX6_laysRow_26 rfl rfl ?_
  refine aw_putI dX6_laysRow_27 fl_X6_261 (Or.inl rfl) (((sT_emM M 0 13 8 l).TR hT).s 0 (by decide)) (((sT_emM M 0 13 8 l).TR hT).n 0 (by decide)) ?_
  refine aw_eqM (meM_e M n T l) ?_
  refine aw_aload_n dX6_laysRow_30 0 rfl ?_
  refine aw_iload_n dX6_laysRow_31 1 rfl ?_
  refine aw_callVi [.int (nI T)] [] (sp_X6_isPlain (d := d - 1) (by omega) (nI T) ((sT_emM (meM M n T) 0 13 8 l).TR ((sT_meM M n T).TR hT)) (vp_in_nI hTl (by decide))) dX6_laysRow_32 ml_X6_183 im_X6_isPlain (((sT_emM (meM M n T) 0 13 8 l).TR ((sT_meM M n T).TR hT)).s 0 (by decide)) (((sT_emM (meM M n T) 0 13 8 l).TR ((sT_meM M n T).TR hT)).n 0 (by decide)) rfl rfl (dl1 (d := d) (by omega)) rfl rfl (Nat.le_of_ble_eq_true rfl) rfl rfl (Nat.zero_le _) (Nat.zero_le _) ?_
  refine aw_if_eq 42 dX6_laysRow_35 (by decide) (fun c1 => ?_) (fun c1 => absurd (bz_0.mpr ((pln_k (M := (emM (meM M n T) 0 13 8 l)) hTl (by omega) ((congrFun (emM_I (meM M n T) l (show (1 : Nat) ≠ 0 by decide) (show (1 : Nat) ≠ 8 by decide)) T).trans hkm)).trans (decide_eq_false (by omega)))) c1)
  refine aw_iconst (v := 0) dX6_laysRow_42 (by decide) ?_
  refine aw_istore_n [(3, .int 0), (0, .ref 0), (1, .int (nI T)), (2, .int (nI m))] dX6_laysRow_43 (Nat.le_of_ble_eq_true rfl) rfl ?_
  refine aw_iload_n dX6_laysRow_44 0 rfl ?_
  refine aw_iconst (v := 2) dX6_laysRow_45 (by decide) ?_
  refine aw_icmp_ne 70 dX6_laysRow_46 (by decide) (fun c2 => ?_) (fun c2 => absurd c2 (by decide))
  refine aw_aload_n dX6_laysRow_70 1 rfl ?_
  refine aw_bipush (v := 16) dX6_laysRow_71 (by decide) ?_
  refine aw_bipush (v := 16) dX6_laysRow_73 (by decide) ?_
  refine aw_iload_n dX6_laysRow_75 0 rfl ?_
  refine aw_imul dX6_laysRow_76 ?_
  refine aw_iadd dX6_laysRow_77 ?_
  refine aw_aload_n dX6_laysRow_78 1 rfl ?_
  refine aw_getR (b := 1) dX6_laysRow_79 fl_X6_7 rfl (((sT_emM (meM M n T) 0 13 8 l).TR ((sT_meM M n T).TR hT)).s 0 (by decide)) (((sT_emM (meM M n T) 0 13 8 l).TR ((sT_meM M n T).TR hT)).n 0 (by decide)) (((sT_emM (meM M n T) 0 13 8 l).TR ((sT_meM M n T).TR hT)).r 0) ?_
  refine aw_iload_n dX6_laysRow_82 2 rfl ?_
  refine aw_ialdN T dX6_laysRow_83 (((sT_emM (meM M n T) 0 13 8 l).TR ((sT_meM M n T).TR hT)).s 1 (by decide)) (((sT_emM (meM M n T) 0 13 8 l).TR ((sT_meM M n T).TR hT)).n 1 (by decide)) rfl (by omega) (by first | decide | omega) ?_
  refine aw_topE ((congrFun (emM_I (meM M n T) l (show (1 : Nat) ≠ 0 by decide) (show (1 : Nat) ≠ 8 by decide)) T).trans ((congrFun (meM_I M (show (1 : Nat) ≠ 0 by decide) (show (1 : Nat) ≠ 10 by decide) (show (1 : Nat) ≠ 11 by decide)) T).trans hk)) ?_
  refine aw_iadd dX6_laysRow_84 ?_
  refine aw_callVv [.int ((16 + (16 * 0)) + (nI k))] [] (sp_ls (d := d - 1) (by omega) (l := l) ((16 + (16 * 0)) + (nI k)) ((sT_meM M n T).TR hT) (by first | omega | (simp only [List.length_append, List.length_cons, List.length_nil, byB_len] at *; omega))) dX6_laysRow_85 ml_X6_240 im_X6_lays (((sT_emM (meM M n T) 0 13 8 l).TR ((sT_meM M n T).TR hT)).s 0 (by decide)) (((sT_emM (meM M n T) 0 13 8 l).TR ((sT_meM M n T).TR hT)).n 0 (by decide)) rfl rfl (dl1 (d := d) (by omega)) rfl rfl (Nat.le_of_ble_eq_true rfl) rfl rfl (Nat.zero_le _) (Nat.zero_le _) ?_
  refine aw_aload_n dX6_laysRow_88 1 rfl ?_
  refine aw_aload_n dX6_laysRow_89 1 rfl ?_
  refine aw_getR (b := 2) dX6_laysRow_90 fl_X6_13 rfl (((sT_emM (meM M n T) 0 13 8 (l ++ [(16 + (16 * 0)) + (nI k)])).TR ((sT_meM M n T).TR hT)).s 0 (by decide)) (((sT_emM (meM M n T) 0 13 8 (l ++ [(16 + (16 * 0)) + (nI k)])).TR ((sT_meM M n T).TR hT)).n 0 (by decide)) (((sT_emM (meM M n T) 0 13 8 (l ++ [(16 + (16 * 0)) + (nI k)])).TR ((sT_meM M n T).TR hT)).r 1) ?_
  refine aw_iload_n dX6_laysRow_93 2 rfl ?_
  refine aw_ialdN T dX6_laysRow_94 (((sT_emM (meM M n T) 0 13 8 (l ++ [(16 + (16 * 0)) + (nI k)])).TR ((sT_meM M n T).TR hT)).s 2 (by decide)) (((sT_emM (meM M n T) 0 13 8 (l ++ [(16 + (16 * 0)) + (nI k)])).TR ((sT_meM M n T).TR hT)).n 2 (by decide)) rfl (by omega) (by first | decide | omega) ?_
  refine aw_topE ((congrFun (emM_I (meM M n T) (l ++ [(16 + (16 * 0)) + (nI k)]) (show (2 : Nat) ≠ 0 by decide) (show (2 : Nat) ≠ 8 by decide)) T).trans ((congrFun (meM_I M (show (2 : Nat) ≠ 0 by decide) (show (2 : Nat) ≠ 10 by decide) (show (2 : Nat) ≠ 11 by decide)) T).trans hz)) ?_
  refine aw_callVv [.int (nI z)] [] (sp_ls (d := d - 1) (by omega) (l := l ++ [(16 + (16 * 0)) + (nI k)]) (nI z) ((sT_meM M n T).TR hT) (by first | omega | (simp only [List.length_append, List.length_cons, List.length_nil, byB_len] at *; omega))) dX6_laysRow_95 ml_X6_240 im_X6_lays (((sT_emM (meM M n T) 0 13 8 (l ++ [(16 + (16 * 0)) + (nI k)])).TR ((sT_meM M n T).TR hT)).s 0 (by decide)) (((sT_emM (meM M n T) 0 13 8 (l ++ [(16 + (16 * 0)) + (nI k)])).TR ((sT_meM M n T).TR hT)).n 0 (by decide)) rfl rfl (dl1 (d := d) (by omega)) rfl rfl (Nat.le_of_ble_eq_true rfl) rfl rfl (Nat.zero_le _) (Nat.zero_le _) ?_
  refine aw_aload_n dX6_laysRow_98 1 rfl ?_
  refine aw_iload_n dX6_laysRow_99 2 rfl ?_
  refine aw_callVi [.int (nI T)] [] (sp_X6_isPlain (d := d - 1) (by omega) (nI T) ((sT_emM (meM M n T) 0 13 8 (l ++ [(16 + (16 * 0)) + (nI k)] ++ [nI z])).TR ((sT_meM M n T).TR hT)) (vp_in_nI hTl (by decide))) dX6_laysRow_100 ml_X6_183 im_X6_isPlain (((sT_emM (meM M n T) 0 13 8 (l ++ [(16 + (16 * 0)) + (nI k)] ++ [nI z])).TR ((sT_meM M n T).TR hT)).s 0 (by decide)) (((sT_emM (meM M n T) 0 13 8 (l ++ [(16 + (16 * 0)) + (nI k)] ++ [nI z])).TR ((sT_meM M n T).TR hT)).n 0 (by decide)) rfl rfl (dl1 (d := d) (by omega)) rfl rfl (Nat.le_of_ble_eq_true rfl) rfl rfl (Nat.zero_le _) (Nat.zero_le _) ?_
  refine aw_if_eq 115 dX6_laysRow_103 (by decide) (fun c3 => ?_) (fun c3 => absurd (bz_0.mpr ((pln_k (M := (emM (meM M n T) 0 13 8 (l ++ [(16 + (16 * 0)) + (nI k)] ++ [nI z]))) hTl (by omega) ((congrFun (emM_I (meM M n T) (l ++ [(16 + (16 * 0)) + (nI k)] ++ [nI z]) (show (1 : Nat) ≠ 0 by decide) (show (1 : Nat) ≠ 8 by decide)) T).trans hkm)).trans (decide_eq_false (by omega)))) c3)
  refine aw_aload_n dX6_laysRow_115 1 rfl ?_
  refine aw_getR (b := 12) dX6_laysRow_116 fl_X6_48 rfl (((sT_emM (meM M n T) 0 13 8 (l ++ [(16 + (16 * 0)) + (nI k)] ++ [nI z])).TR ((sT_meM M n T).TR hT)).s 0 (by decide)) (((sT_emM (meM M n T) 0 13 8 (l ++ [(16 + (16 * 0)) + (nI k)] ++ [nI z])).TR ((sT_meM M n T).TR hT)).n 0 (by decide)) (((sT_emM (meM M n T) 0 13 8 (l ++ [(16 + (16 * 0)) + (nI k)] ++ [nI z])).TR ((sT_meM M n T).TR hT)).r 20) ?_
  refine aw_aload_n dX6_laysRow_119 1 rfl ?_
  refine aw_getI dX6_laysRow_120 fl_X6_267 (((sT_emM (meM M n T) 0 13 8 (l ++ [(16 + (16 * 0)) + (nI k)] ++ [nI z])).TR ((sT_meM M n T).TR hT)).s 0 (by decide)) (((sT_emM (meM M n T) 0 13 8 (l ++ [(16 + (16 * 0)) + (nI k)] ++ [nI z])).TR ((sT_meM M n T).TR hT)).n 0 (by decide)) ?_
  refine aw_topE ((emM_a (meM M n T) (l ++ [(16 + (16 * 0)) + (nI k)] ++ [nI z]) (show (19 : Nat) ≠ 13 by decide) (show (0 : Nat) ≠ 8 by decide)).trans ((meM_0 M (by decide)).trans hp)) ?_
  refine aw_iload_n dX6_laysRow_123 2 rfl ?_
  refine aw_iastN p dX6_laysRow_124 (((sT_emM (meM M n T) 0 13 8 (l ++ [(16 + (16 * 0)) + (nI k)] ++ [nI z])).TR ((sT_meM M n T).TR hT)).s 12 (by decide)) (((sT_emM (meM M n T) 0 13 8 (l ++ [(16 + (16 * 0)) + (nI k)] ++ [nI z])).TR ((sT_meM M n T).TR hT)).n 12 (by decide)) rfl (by omega) (by first | decide | omega) ?_
  refine aw_aload_n dX6_laysRow_125 1 rfl ?_
  refine aw_getR (b := 13) dX6_laysRow_126 fl_X6_51 rfl (((sT_emM (meM M n T) 0 13 8 (l ++ [(16 + (16 * 0)) + (nI k)] ++ [nI z])).TR ((sT_meM M n T).TR hT)).s 0 (by decide)) (((sT_emM (meM M n T) 0 13 8 (l ++ [(16 + (16 * 0)) + (nI k)] ++ [nI z])).TR ((sT_meM M n T).TR hT)).n 0 (by decide)) (((sT_emM (meM M n T) 0 13 8 (l ++ [(16 + (16 * 0)) + (nI k)] ++ [nI z])).TR ((sT_meM M n T).TR hT)).r 21) ?_
  refine aw_aload_n dX6_laysRow_129 1 rfl ?_
  refine aw_getI dX6_laysRow_130 fl_X6_267 (((sT_emM (meM M n T) 0 13 8 (l ++ [(16 + (16 * 0)) + (nI k)] ++ [nI z])).TR ((sT_meM M n T).TR hT)).s 0 (by decide)) (((sT_emM (meM M n T) 0 13 8 (l ++ [(16 + (16 * 0)) + (nI k)] ++ [nI z])).TR ((sT_meM M n T).TR hT)).n 0 (by decide)) ?_
  refine aw_topE ((congrFun (mI_stI_c _ _ _ (show (0 : Nat) ≠ 12 by decide)) 19).trans ((emM_a (meM M n T) (l ++ [(16 + (16 * 0)) + (nI k)] ++ [nI z]) (show (19 : Nat) ≠ 13 by decide) (show (0 : Nat) ≠ 8 by decide)).trans ((meM_0 M (by decide)).trans hp))) ?_
  refine aw_iconst (v := 0) dX6_laysRow_133 (by decide) ?_
  refine aw_iastN p dX6_laysRow_134 (((sT_emM (meM M n T) 0 13 8 (l ++ [(16 + (16 * 0)) + (nI k)] ++ [nI z])).TR ((sT_meM M n T).TR hT)).s 13 (by decide)) (((sT_emM (meM M n T) 0 13 8 (l ++ [(16 + (16 * 0)) + (nI k)] ++ [nI z])).TR ((sT_meM M n T).TR hT)).n 13 (by decide)) rfl (by omega) (by first | decide | omega) ?_
  refine aw_aload_n dX6_laysRow_135 1 rfl ?_
  refine aw_dup dX6_laysRow_136 rfl ?_
  refine aw_getI dX6_laysRow_137 fl_X6_267 (((sT_emM (meM M n T) 0 13 8 (l ++ [(16 + (16 * 0)) + (nI k)] ++ [nI z])).TR ((sT_meM M n T).TR hT)).s 0 (by decide)) (((sT_emM (meM M n T) 0 13 8 (l ++ [(16 + (16 * 0)) + (nI k)] ++ [nI z])).TR ((sT_meM M n T).TR hT)).n 0 (by decide)) ?_
  refine aw_topE ((congrFun (mI_stI_c _ _ _ (show (0 : Nat) ≠ 13 by decide)) 19).trans ((congrFun (mI_stI_c _ _ _ (show (0 : Nat) ≠ 12 by decide)) 19).trans ((emM_a (meM M n T) (l ++ [(16 + (16 * 0)) + (nI k)] ++ [nI z]) (show (19 : Nat) ≠ 13 by decide) (show (0 : Nat) ≠ 8 by decide)).trans ((meM_0 M (by decide)).trans hp)))) ?_
  refine aw_iconst (v := 1) dX6_laysRow_140 (by decide) ?_
  refine aw_iaddN p 1 dX6_laysRow_141 rfl rfl ?_
  refine aw_putI dX6_laysRow_142 fl_X6_267 (Or.inl rfl) (((sT_emM (meM M n T) 0 13 8 (l ++ [(16 + (16 * 0)) + (nI k)] ++ [nI z])).TR ((sT_meM M n T).TR hT)).s 0 (by decide)) (((sT_emM (meM M n T) 0 13 8 (l ++ [(16 + (16 * 0)) + (nI k)] ++ [nI z])).TR ((sT_meM M n T).TR hT)).n 0 (by decide)) ?_
  refine aw_ret dX6_laysRow_145 rfl (Nat.zero_le _) (Nat.zero_le _) ?_
  refine ⟨rfl, (puM_e (meM M n T) p T _).trans ?_⟩
  rw [show (16 : Int32) + 16 * 0 + nI k = nI (16 + k) from nI_add 16 k, List.append_assoc]
  rfl
theorem sp_lcN {d : Nat} (hd : 6 ≤ d) {M : xM} {l : List Int32} (w : Nat) (v : Int64) (hw : w < 8) (hv : okN w v) (hT : TR M) (m : Int32) (hl : l.length + 10 ≤ 1500) : Sp (fX6_laysCell d) [.ref 0, .int (nI w), .long v, .int m] (emM M 0 13 8 l) (dt none (emM M 0 13 8 (l ++ elB w v))) := by
  refine Sp.of pn_X6 (Nat.le_of_ble_eq_true rfl) (fun h => Bool.noConfusion h) ?_
  rw [show elB w v = [nI w] ++ nuC w v by unfold elB; rw [if_neg (by omega), if_neg (by omega), if_pos hw]; rfl, ← List.append_assoc]
  refine aw_iload_n dX6_laysCell_0 1 rfl ?_
  refine aw_bipush (v := 8) dX6_laysCell_1 (by decide) ?_
  refine aw_icmp_geN w 8 20 dX6_laysCell_3 (by decide) rfl rfl (by omega) (by omega) (fun c1 => absurd c1 (by omega)) (fun c1 => ?_)
  refine aw_aload_n dX6_laysCell_6 0 rfl ?_
  refine aw_iload_n dX6_laysCell_7 1 rfl ?_
  refine aw_callVv [.int (nI w)] [] (sp_ls (d := d - 1) (by omega) (l := l) (nI w) hT (by first | omega | (simp only [List.length_append, List.length_cons, List.length_nil, byB_len] at *; omega))) dX6_laysCell_8 ml_X6_240 im_X6_lays (((sT_emM M 0 13 8 l).TR hT).s 0 (by decide)) (((sT_emM M 0 13 8 l).TR hT).n 0 (by decide)) rfl rfl (dl1 (d := d) (by omega)) rfl rfl (Nat.le_of_ble_eq_true rfl) rfl rfl (Nat.zero_le _) (Nat.zero_le _) ?_
  refine aw_aload_n dX6_laysCell_11 0 rfl ?_
  refine aw_iload_n dX6_laysCell_12 1 rfl ?_
  refine aw_lload_n dX6_laysCell_13 2 rfl ?_
  refine aw_callVv [.int (nI w), .long v] [] (sp_ln (d := d - 1) (by omega) (l := l ++ [nI w]) w v hT hw hv (by first | omega | (simp only [List.length_append, List.length_cons, List.length_nil, byB_len] at *; omega))) dX6_laysCell_14 ml_X6_250 im_X6_laysNumber (((sT_emM M 0 13 8 (l ++ [nI w])).TR hT).s 0 (by decide)) (((sT_emM M 0 13 8 (l ++ [nI w])).TR hT).n 0 (by decide)) rfl rfl (dl1 (d := d) (by omega)) rfl rfl (Nat.le_of_ble_eq_true rfl) rfl rfl (Nat.zero_le _) (Nat.zero_le _) ?_
  refine aw_goto 108 dX6_laysCell_17 (by decide) ?_
  refine aw_ret dX6_laysCell_108 rfl (Nat.zero_le _) (Nat.zero_le _) ?_
  exact ⟨rfl, rfl⟩
theorem sp_lc8 {d : Nat} (hd : 6 ≤ d) {M : xM} {l : List Int32} (c : Nat) (hc0 : 0 < c) (hc : c < 27 ^ 7) (hT : TR M) (m : Int32) (hl : l.length + 10 ≤ 1500) : Sp (fX6_laysCell d) [.ref 0, .int 8, .long (lN c), .int m] (emM M 0 13 8 l) (dt none (emM M 0 13 8 (l ++ elB 8 (lN c)))) := by
  refine Sp.of pn_X6 (Nat.le_of_ble_eq_true rfl) (fun h => Bool.noConfusion h) ?_
  refine aw_iload_n dX6_laysCell_0 1 rfl ?_
  refine aw_bipush (v := 8) dX6_laysCell_1 (by decide) ?_
  refine aw_icmp_ge 20 dX6_laysCell_3 (by decide) (fun c1 => ?_) (fun c1 => absurd (by decide) c1)
  refine aw_iload_n dX6_laysCell_20 1 rfl ?_
  refine aw_bipush (v := 8) dX6_laysCell_21 (by decide) ?_
  refine aw_icmp_ne 34 dX6_laysCell_23 (by decide) (fun c2 => absurd rfl c2) (fun c2 => ?_)
  refine aw_aload_n dX6_laysCell_26 0 rfl ?_
  refine aw_lload_n dX6_laysCell_27 2 rfl ?_
  refine aw_callVv [.long (lN c)] [] (sp_lwd (d := d - 1) (by omega) (l := l) c hT hc0 hc (by omega)) dX6_laysCell_28 ml_X6_270 im_X6_laysWord (((sT_emM M 0 13 8 l).TR hT).s 0 (by decide)) (((sT_emM M 0 13 8 l).TR hT).n 0 (by decide)) rfl rfl (dl1 (d := d) (by omega)) rfl rfl (Nat.le_of_ble_eq_true rfl) rfl rfl (Nat.zero_le _) (Nat.zero_le _) ?_
  refine aw_goto 108 dX6_laysCell_31 (by decide) ?_
  refine aw_ret dX6_laysCell_108 rfl (Nat.zero_le _) (Nat.zero_le _) ?_
  exact ⟨rfl, rfl⟩
theorem sp_lc9 {d : Nat} (hd : 6 ≤ d) {M : xM} {l : List Int32} (v : Int64) (hT : TR M) (m : Int32) (hl : l.length + 10 ≤ 1500) : Sp (fX6_laysCell d) [.ref 0, .int 9, .long v, .int m] (emM M 0 13 8 l) (dt none (emM M 0 13 8 (l ++ elB 9 v))) := by
  refine Sp.of pn_X6 (Nat.le_of_ble_eq_true rfl) (fun h => Bool.noConfusion h) ?_
  rw [show elB 9 v = [9] ++ [v.toInt32] from rfl, ← List.append_assoc]
  refine aw_iload_n dX6_laysCell_0 1 rfl ?_
  refine aw_bipush (v := 8) dX6_laysCell_1 (by decide) ?_
  refine aw_icmp_ge 20 dX6_laysCell_3 (by decide) (fun c1 => ?_) (fun c1 => absurd (by decide) c1)
  refine aw_iload_n dX6_laysCell_20 1 rfl ?_
  refine aw_bipush (v := 8) dX6_laysCell_21 (by decide) ?_
  refine aw_icmp_ne 34 dX6_laysCell_23 (by decide) (fun c2 => ?_) (fun c2 => absurd c2 (by decide))
  refine aw_iload_n dX6_laysCell_34 1 rfl ?_
  refine aw_bipush (v := 9) dX6_laysCell_35 (by decide) ?_
  refine aw_icmp_ne 55 dX6_laysCell_37 (by decide) (fun c3 => absurd rfl c3) (fun c3 => ?_)
  refine aw_aload_n dX6_laysCell_40 0 rfl ?_
  refine aw_bipush (v := 9) dX6_laysCell_41 (by decide) ?_
  refine aw_callVv [.int 9] [] (sp_ls (d := d - 1) (by omega) (l := l) 9 hT (by first | omega | (simp only [List.length_append, List.length_cons, List.length_nil, byB_len] at *; omega))) dX6_laysCell_43 ml_X6_240 im_X6_lays (((sT_emM M 0 13 8 l).TR hT).s 0 (by decide)) (((sT_emM M 0 13 8 l).TR hT).n 0 (by decide)) rfl rfl (dl1 (d := d) (by omega)) rfl rfl (Nat.le_of_ble_eq_true rfl) rfl rfl (Nat.zero_le _) (Nat.zero_le _) ?_
  refine aw_aload_n dX6_laysCell_46 0 rfl ?_
  refine aw_lload_n dX6_laysCell_47 2 rfl ?_
  refine aw_l2i dX6_laysCell_48 ?_
  refine aw_callVv [.int (Int64.toInt32 v)] [] (sp_ls (d := d - 1) (by omega) (l := l ++ [9]) (Int64.toInt32 v) hT (by first | omega | (simp only [List.length_append, List.length_cons, List.length_nil, byB_len] at *; omega))) dX6_laysCell_49 ml_X6_240 im_X6_lays (((sT_emM M 0 13 8 (l ++ [9])).TR hT).s 0 (by decide)) (((sT_emM M 0 13 8 (l ++ [9])).TR hT).n 0 (by decide)) rfl rfl (dl1 (d := d) (by omega)) rfl rfl (Nat.le_of_ble_eq_true rfl) rfl rfl (Nat.zero_le _) (Nat.zero_le _) ?_
  refine aw_goto 108 dX6_laysCell_52 (by decide) ?_
  refine aw_ret dX6_laysCell_108 rfl (Nat.zero_le _) (Nat.zero_le _) ?_
  exact ⟨rfl, rfl⟩
theorem sp_lc11 {d : Nat} (hd : 6 ≤ d) {M : xM} {l : List Int32} (v : Int64) (hT : TR M) (m : Int32) (hl : l.length + 10 ≤ 1500) : Sp (fX6_laysCell d) [.ref 0, .int 11, .long v, .int m] (emM M 0 13 8 l) (dt none (emM M 0 13 8 (l ++ elB 11 v))) := by
  refine Sp.of pn_X6 (Nat.le_of_ble_eq_true rfl) (fun h => Bool.noConfusion h) ?_
  rw [show elB 11 v = [11] from rfl]
  refine aw_iload_n dX6_laysCell_0 1 rfl ?_
  refine aw_bipush (v := 8) dX6_laysCell_1 (by decide) ?_
  refine aw_icmp_ge 20 dX6_laysCell_3 (by decide) (fun c1 => ?_) (fun c1 => absurd (by decide) c1)
  refine aw_iload_n dX6_laysCell_20 1 rfl ?_
  refine aw_bipush (v := 8) dX6_laysCell_21 (by decide) ?_
  refine aw_icmp_ne 34 dX6_laysCell_23 (by decide) (fun c2 => ?_) (fun c2 => absurd c2 (by decide))
  refine aw_iload_n dX6_laysCell_34 1 rfl ?_
  refine aw_bipush (v := 9) dX6_laysCell_35 (by decide) ?_
  refine aw_icmp_ne 55 dX6_laysCell_37 (by decide) (fun c3 => ?_) (fun c3 => absurd c3 (by decide))
  refine aw_iload_n dX6_laysCell_55 1 rfl ?_
  refine aw_bipush (v := 11) dX6_laysCell_56 (by decide) ?_
  refine aw_icmp_ne 70 dX6_laysCell_58 (by decide) (fun c4 => absurd rfl c4) (fun c4 => ?_)
  refine aw_aload_n dX6_laysCell_61 0 rfl ?_
  refine aw_bipush (v := 11) dX6_laysCell_62 (by decide) ?_
  refine aw_callVv [.int 11] [] (sp_ls (d := d - 1) (by omega) (l := l) 11 hT (by first | omega | (simp only [List.length_append, List.length_cons, List.length_nil, byB_len] at *; omega))) dX6_laysCell_64 ml_X6_240 im_X6_lays (((sT_emM M 0 13 8 l).TR hT).s 0 (by decide)) (((sT_emM M 0 13 8 l).TR hT).n 0 (by decide)) rfl rfl (dl1 (d := d) (by omega)) rfl rfl (Nat.le_of_ble_eq_true rfl) rfl rfl (Nat.zero_le _) (Nat.zero_le _) ?_
  refine aw_goto 108 dX6_laysCell_67 (by decide) ?_
  refine aw_ret dX6_laysCell_108 rfl (Nat.zero_le _) (Nat.zero_le _) ?_
  exact ⟨rfl, rfl⟩
theorem sp_lcM {d : Nat} (hd : 6 ≤ d) {M : xM} {l : List Int32} (T i : Nat) (hTl : T < 24) (hi : i < 12) (hmet : mI M 10 T = nI i) (hT : TR M) (m : Int32) (hl : l.length + 10 ≤ 1500) : Sp (fX6_laysCell d) [.ref 0, .int 10, .long (lN T), .int m] (emM M 0 13 8 l) (dt none (emM M 0 13 8 (l ++ [10, nI i]))) := by
  refine Sp.of pn_X6 (Nat.le_of_ble_eq_true rfl) (fun h => Bool.noConfusion h) ?_
  rw [show l ++ [10, nI i] = l ++ [10] ++ [nI i] by simp]
  refine aw_iload_n dX6_laysCell_0 1 rfl ?_
  refine aw_bipush (v := 8) dX6_laysCell_1 (by decide) ?_
  refine aw_icmp_ge 20 dX6_laysCell_3 (by decide) (fun c1 => ?_) (fun c1 => absurd (by decide) c1)
  refine aw_iload_n dX6_laysCell_20 1 rfl ?_
  refine aw_bipush (v := 8) dX6_laysCell_21 (by decide) ?_
  refine aw_icmp_ne 34 dX6_laysCell_23 (by decide) (fun c2 => ?_) (fun c2 => absurd c2 (by decide))
  refine aw_iload_n dX6_laysCell_34 1 rfl ?_
  refine aw_bipush (v := 9) dX6_laysCell_35 (by decide) ?_
  refine aw_icmp_ne 55 dX6_laysCell_37 (by decide) (fun c3 => ?_) (fun c3 => absurd c3 (by decide))
  refine aw_iload_n dX6_laysCell_55 1 rfl ?_
  refine aw_bipush (v := 11) dX6_laysCell_56 (by decide) ?_
  refine aw_icmp_ne 70 dX6_laysCell_58 (by decide) (fun c4 => ?_) (fun c4 => absurd c4 (by decide))
  refine aw_aload_n dX6_laysCell_70 0 rfl ?_
  refine aw_getR (b := 10) dX6_laysCell_71 fl_X6_42 rfl (((sT_emM M 0 13 8 l).TR hT).s 0 (by decide)) (((sT_emM M 0 13 8 l).TR hT).n 0 (by decide)) (((sT_emM M 0 13 8 l).TR hT).r 16) ?_
  refine aw_lload_n dX6_laysCell_74 2 rfl ?_
  refine aw_l2iN T dX6_laysCell_75 rfl ?_
  refine aw_ialdN T dX6_laysCell_76 (((sT_emM M 0 13 8 l).TR hT).s 10 (by decide)) (((sT_emM M 0 13 8 l).TR hT).n 10 (by decide)) rfl (by omega) (by first | decide | omega) ?_
  refine aw_topE ((congrFun (emM_I M l (show (10 : Nat) ≠ 0 by decide) (show (10 : Nat) ≠ 8 by decide)) T).trans hmet) ?_
  refine aw_if_lt 100 dX6_laysCell_77 (by decide) (fun c5 => absurd c5 (nI_nn (by omega))) (fun c5 => ?_)
  refine aw_aload_n dX6_laysCell_80 0 rfl ?_
  refine aw_bipush (v := 10) dX6_laysCell_81 (by decide) ?_
  refine aw_callVv [.int 10] [] (sp_ls (d := d - 1) (by omega) (l := l) 10 hT (by first | omega | (simp only [List.length_append, List.length_cons, List.length_nil, byB_len] at *; omega))) dX6_laysCell_83 ml_X6_240 im_X6_lays (((sT_emM M 0 13 8 l).TR hT).s 0 (by decide)) (((sT_emM M 0 13 8 l).TR hT).n 0 (by decide)) rfl rfl (dl1 (d := d) (by omega)) rfl rfl (Nat.le_of_ble_eq_true rfl) rfl rfl (Nat.zero_le _) (Nat.zero_le _) ?_
  refine aw_aload_n dX6_laysCell_86 0 rfl ?_
  refine aw_aload_n dX6_laysCell_87 0 rfl ?_
  refine aw_getR (b := 10) dX6_laysCell_88 fl_X6_42 rfl (((sT_emM M 0 13 8 (l ++ [10])).TR hT).s 0 (by decide)) (((sT_emM M 0 13 8 (l ++ [10])).TR hT).n 0 (by decide)) (((sT_emM M 0 13 8 (l ++ [10])).TR hT).r 16) ?_
  refine aw_lload_n dX6_laysCell_91 2 rfl ?_
  refine aw_l2iN T dX6_laysCell_92 rfl ?_
  refine aw_ialdN T dX6_laysCell_93 (((sT_emM M 0 13 8 (l ++ [10])).TR hT).s 10 (by decide)) (((sT_emM M 0 13 8 (l ++ [10])).TR hT).n 10 (by decide)) rfl (by omega) (by first | decide | omega) ?_
  refine aw_topE ((congrFun (emM_I M (l ++ [10]) (show (10 : Nat) ≠ 0 by decide) (show (10 : Nat) ≠ 8 by decide)) T).trans hmet) ?_
  refine aw_callVv [.int (nI i)] [] (sp_ls (d := d - 1) (by omega) (l := l ++ [10]) (nI i) hT (by first | omega | (simp only [List.length_append, List.length_cons, List.length_nil, byB_len] at *; omega))) dX6_laysCell_94 ml_X6_240 im_X6_lays (((sT_emM M 0 13 8 (l ++ [10])).TR hT).s 0 (by decide)) (((sT_emM M 0 13 8 (l ++ [10])).TR hT).n 0 (by decide)) rfl rfl (dl1 (d := d) (by omega)) rfl rfl (Nat.le_of_ble_eq_true rfl) rfl rfl (Nat.zero_le _) (Nat.zero_le _) ?_
  refine aw_goto 108 dX6_laysCell_97 (by decide) ?_
  refine aw_ret dX6_laysCell_108 rfl (Nat.zero_le _) (Nat.zero_le _) ?_
  exact ⟨rfl, rfl⟩
theorem sp_lcR {d : Nat} (hd : 6 ≤ d) {M M2 : xM} {l : List Int32} (T : Nat) (hTl : T < 24) (hT : TR M) (m : Int32) (hmet : mI M 10 T = -1) (hC : Sp (fX6_laysRow (d - 1)) [.ref 0, .int (nI T), .int m] (emM M 0 13 8 l) (dt none M2)) : Sp (fX6_laysCell d) [.ref 0, .int 10, .long (lN T), .int m] (emM M 0 13 8 l) (dt none M2) := by
  refine Sp.of pn_X6 (Nat.le_of_ble_eq_true rfl) (fun h => Bool.noConfusion h) ?_
  refine aw_iload_n dX6_laysCell_0 1 rfl ?_
  refine aw_bipush (v := 8) dX6_laysCell_1 (by decide) ?_
  refine aw_icmp_ge 20 dX6_laysCell_3 (by decide) (fun c1 => ?_) (fun c1 => absurd (by decide) c1)
  refine aw_iload_n dX6_laysCell_20 1 rfl ?_
  refine aw_bipush (v := 8) dX6_laysCell_21 (by decide) ?_
  refine aw_icmp_ne 34 dX6_laysCell_23 (by decide) (fun c2 => ?_) (fun c2 => absurd c2 (by decide))
  refine aw_iload_n dX6_laysCell_34 1 rfl ?_
  refine aw_bipush (v := 9) dX6_laysCell_35 (by decide) ?_
  refine aw_icmp_ne 55 dX6_laysCell_37 (by decide) (fun c3 => ?_) (fun c3 => absurd c3 (by decide))
  refine aw_iload_n dX6_laysCell_55 1 rfl ?_
  refine aw_bipush (v := 11) dX6_laysCell_56 (by decide) ?_
  refine aw_icmp_ne 70 dX6_laysCell_58 (by decide) (fun c4 => ?_) (fun c4 => absurd c4 (by decide))
  refine aw_aload_n dX6_laysCell_70 0 rfl ?_
  refine aw_getR (b := 10) dX6_laysCell_71 fl_X6_42 rfl (((sT_emM M 0 13 8 l).TR hT).s 0 (by decide)) (((sT_emM M 0 13 8 l).TR hT).n 0 (by decide)) (((sT_emM M 0 13 8 l).TR hT).r 16) ?_
  refine aw_lload_n dX6_laysCell_74 2 rfl ?_
  refine aw_l2iN T dX6_laysCell_75 rfl ?_
  refine aw_ialdN T dX6_laysCell_76 (((sT_emM M 0 13 8 l).TR hT).s 10 (by decide)) (((sT_emM M 0 13 8 l).TR hT).n 10 (by decide)) rfl (by omega) (by first | decide | omega) ?_
  refine aw_topE ((congrFun (emM_I M l (show (10 : Nat) ≠ 0 by decide) (show (10 : Nat) ≠ 8 by decide)) T).trans hmet) ?_
  refine aw_if_lt 100 dX6_laysCell_77 (by decide) (fun c5 => ?_) (fun c5 => absurd (by decide) c5)
  refine aw_aload_n dX6_laysCell_100 0 rfl ?_
  refine aw_lload_n dX6_laysCell_101 2 rfl ?_
  refine aw_l2iN T dX6_laysCell_102 rfl ?_
  refine aw_iload dX6_laysCell_103 3 rfl ?_
  refine aw_callVv [.int (nI T), .int m] [] hC dX6_laysCell_105 ml_X6_273 im_X6_laysRow (((sT_emM M 0 13 8 l).TR hT).s 0 (by decide)) (((sT_emM M 0 13 8 l).TR hT).n 0 (by decide)) rfl rfl (dl1 (d := d) (by omega)) rfl rfl (Nat.le_of_ble_eq_true rfl) rfl rfl (Nat.zero_le _) (Nat.zero_le _) ?_
  refine aw_ret dX6_laysCell_108 rfl (Nat.zero_le _) (Nat.zero_le _) ?_
  exact ⟨rfl, rfl⟩
