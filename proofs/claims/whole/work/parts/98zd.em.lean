-- BYTES WRITTEN
def emM (M : xM) (a f c : Nat) (l : List Int32) : xM := stI (flI M c 0 l.length (fun k => l.getD k 0)) a f (nI l.length)
theorem sT_emM (M : xM) (a f c : Nat) (l : List Int32) : sT M (emM M a f c l) := ⟨rfl, rfl, rfl⟩
theorem emM_L (M : xM) (a f c : Nat) (l : List Int32) : mL (emM M a f c l) = mL M := rfl
theorem emM_I (M : xM) {a f c x : Nat} (l : List Int32) (h1 : x ≠ a) (h2 : x ≠ c) : mI (emM M a f c l) x = mI M x := by
  unfold emM
  rw [mI_stI_c _ _ _ h1, mI_flI_ne _ h2]
theorem emM_f (M : xM) (a f c : Nat) (l : List Int32) : mI (emM M a f c l) a f = nI l.length := mI_stI_v _ _ _ _
theorem emM_a (M : xM) {a f c k : Nat} (l : List Int32) (h : k ≠ f) (hc : a ≠ c) : mI (emM M a f c l) a k = mI M a k := by
  unfold emM
  rw [mI_stI_o _ _ _ _ h, mI_flI_ne _ hc]
theorem emM_c (M : xM) {a f c k : Nat} (l : List Int32) (h : k < l.length) (hc : c ≠ a) : mI (emM M a f c l) c k = l.getD k 0 := by
  unfold emM
  rw [mI_stI_c _ _ _ hc]
  have := mI_flI_at M (a := c) (lo := 0) (g := fun k => l.getD k 0) h
  rw [Nat.zero_add] at this
  exact this
theorem emM_s (M : xM) {a f c : Nat} (l : List Int32) (x : Int32) (hc : c ≠ a) : stI (stI (emM M a f c l) c l.length x) a f (nI (l.length + 1)) = emM M a f c (l ++ [x]) := by
  have e : xup (xup (xup (xfl M.1 c 0 l.length (fun k => l.getD k 0)) a f (nI l.length)) c l.length x) a f (nI (l.length + 1)) = xup (xfl M.1 c 0 (l ++ [x]).length (fun k => (l ++ [x]).getD k 0)) a f (nI (l ++ [x]).length) := by
    funext p q
    rw [show (l ++ [x]).length = l.length + 1 by simp]
    unfold xup xfl
    by_cases c1 : p = a
    · subst c1
      by_cases c2 : q = f
      · simp [c2]
      · simp [c2, Ne.symm hc]
    · by_cases c3 : p = c
      · subst c3
        simp only [c1, if_false, if_true, true_and]
        by_cases c4 : q = l.length
        · subst c4
          rw [if_pos rfl, if_pos (by omega)]
          simp
        · rw [if_neg c4]
          by_cases c5 : q < l.length
          · rw [if_pos (by omega), if_pos (by omega)]
            simp [List.getElem?_append_left, c5]
          · rw [if_neg (by omega), if_neg (by omega)]
      · simp [c1, c3]
  exact Prod.ext e rfl
theorem emM_0 {M : xM} {a f c : Nat} (h : mI M a f = 0) : emM M a f c [] = M := by
  unfold emM
  rw [show ([] : List Int32).length = 0 from rfl, flI_0]
  exact stI_same h
/-- a byte of a number -/
def bt8 (v : Int64) (j : Nat) : Int32 := (v >>> ((Int32.toInt64 (nI (8 * j))) &&& 63)).toInt32 &&& 255
def byB (v : Int64) : Nat → List Int32
  | 0 => []
  | j + 1 => bt8 v j :: byB v j
theorem byB_len (v : Int64) : ∀ j, (byB v j).length = j
  | 0 => rfl
  | j + 1 => by show (byB v j).length + 1 = _; rw [byB_len v j]
def dn : Nat → Int32
  | 0 => -1
  | j + 1 => nI j
theorem dn_s (j : Nat) : nI j + (-1) = dn j := by
  cases j with
  | zero => rfl
  | succ j =>
    show nI (j + 1) + (-1) = nI j
    rw [← nI_add]
    show nI j + nI 1 + (-1) = nI j
    rw [Int32.add_assoc, show nI 1 + (-1) = (0 : Int32) from rfl, Int32.add_zero]
def wdK (k : Nat) : Nat := if k < 2 then 1 else if k < 4 then 2 else if k = 4 ∨ k = 6 then 4 else 8
theorem wd_dec : ∀ k, k < 8 → tWIDTHS.getD k 0 - 1 = dn (wdK k) ∧ wdK k ≤ 8 := by decide
/-- a number, as the class writes it -/
def nuC (k : Nat) (v : Int64) : List Int32 := if k < 6 then byB v (wdK k) else sX0_powerPart (nI k) v :: byB (sX0_oddPart (nI k) v) (wdK k)
theorem nuC_len {k : Nat} (hk : k < 8) (v : Int64) : (nuC k v).length ≤ 9 := by
  have := (wd_dec k hk).2
  unfold nuC
  split
  · rw [byB_len]; omega
  · rw [List.length_cons, byB_len]; omega
-- the class's writers
def WrAt (M : xM) (w rw so : Nat) : Prop := mS M w = (0, 3) ∧ w < mN M ∧ mR M w 0 = some rw ∧ mR M w 1 = some so ∧ mR M w 2 = some (w + 1) ∧ mS M (w + 1) = (1, 12) ∧ w + 1 < mN M ∧ StripAt M so 1464 ∧ mS M rw = (3, 12) ∧ rw < mN M
theorem sT.wr {M M' : xM} (h : sT M M') {w rw so : Nat} (hW : WrAt M w rw so) : WrAt M' w rw so := by
  have hs := hW.2.2.2.2.2.2.2.1
  have hs' := h.strip hs
  obtain ⟨h1, h2, h3⟩ := h
  unfold WrAt at hW ⊢
  rw [h1, h2, h3]
  exact ⟨hW.1, hW.2.1, hW.2.2.1, hW.2.2.2.1, hW.2.2.2.2.1, hW.2.2.2.2.2.1, hW.2.2.2.2.2.2.1, hs', hW.2.2.2.2.2.2.2.2⟩
theorem sp_add {d : Nat} (hd : 0 ≤ d) {M : xM} {so : Nat} {l : List Int32} (x : Int32) (hs0 : StripAt M so 1464) (hl : l.length < 1464) : Sp (fX3_add d) [.ref so, .int x] (emM M so 1 (so + 1) l) (dt none (emM M so 1 (so + 1) (l ++ [x]))) := by
  refine Sp.of pn_X3 (Nat.le_of_ble_eq_true rfl) (fun h => Bool.noConfusion h) ?_
  have hs := (sT_emM M so 1 (so + 1) l).strip hs0
  refine aw_aload_n dX3_add_0 0 rfl ?_
  refine aw_getI dX3_add_1 fl_X3_9 hs.1 hs.n0 ?_
  refine aw_topE (emM_f M so 1 (so + 1) l) ?_
  refine aw_aload_n dX3_add_4 0 rfl ?_
  refine aw_getR (b := so + 1) dX3_add_5 fl_X3_15 rfl hs.1 hs.n0 hs.2.2.1 ?_
  refine aw_alen (n := 1464) dX3_add_8 hs.2.1 hs.n1 ?_
  refine aw_icmp_lt 13 dX3_add_9 (by decide) (fun c1 => ?_) (fun c1 => absurd ((L32 (by omega) (by omega)).mpr hl) c1)
  refine aw_aload_n dX3_add_13 0 rfl ?_
  refine aw_getR (b := so + 1) dX3_add_14 fl_X3_15 rfl hs.1 hs.n0 hs.2.2.1 ?_
  refine aw_aload_n dX3_add_17 0 rfl ?_
  refine aw_getI dX3_add_18 fl_X3_9 hs.1 hs.n0 ?_
  refine aw_topE (emM_f M so 1 (so + 1) l) ?_
  refine aw_iload_n dX3_add_21 1 rfl ?_
  refine aw_iastN l.length dX3_add_22 hs.2.1 hs.n1 rfl (by omega) (by first | decide | omega) ?_
  refine aw_aload_n dX3_add_23 0 rfl ?_
  refine aw_dup dX3_add_24 rfl ?_
  refine aw_getI dX3_add_25 fl_X3_9 hs.1 hs.n0 ?_
  refine aw_topE ((congrFun (mI_stI_c _ _ _ (show so ≠ so + 1 by omega)) 1).trans (emM_f M so 1 (so + 1) l)) ?_
  refine aw_iconst (v := 1) dX3_add_28 (by decide) ?_
  refine aw_iaddN l.length 1 dX3_add_29 rfl rfl ?_
  refine aw_putI dX3_add_30 fl_X3_9 (Or.inl rfl) hs.1 hs.n0 ?_
  refine aw_ret dX3_add_33 rfl (Nat.zero_le _) (Nat.zero_le _) ?_
  exact ⟨rfl, emM_s M l x (by omega)⟩
theorem lp_wn {d : Nat} (hd : 3 ≤ d) {M : xM} {w rw so k : Nat} (v u : Int64) (f : Int32) (hW : WrAt M w rw so) : ∀ (j : Nat) (l : List Int32), j ≤ 8 → l.length + j ≤ 1464 → AW (fX4_writeNumber d) 55 [(7, .int (dn j)), (5, .long u), (4, .int f), (0, .ref w), (1, .int (nI k)), (2, .long v)] [] (emM M so 1 (so + 1) l) 0 0 (dt none (emM M so 1 (so + 1) (l ++ byB u j))) := by
  intro j
  induction j with
  | zero =>
    intro l h1 h2
    rw [show l ++ byB u 0 = l from List.append_nil l]
    refine aw_iload dX4_writeNumber_55 0 rfl ?_
    refine aw_if_lt 86 dX4_writeNumber_57 (by decide) (fun c1 => ?_) (fun c1 => absurd (by decide) c1)
    refine aw_ret dX4_writeNumber_86 rfl (Nat.zero_le _) (Nat.zero_le _) ?_
    exact ⟨rfl, rfl⟩
  | succ j ih =>
    intro l h1 h2
    have n0 : ¬ nI j < 0 := fun z => by have := Int32.lt_iff_toInt_lt.mp z; rw [nI_toInt (by omega)] at this; have e0 : (0 : Int32).toInt = 0 := rfl; omega
    have g := ih (l ++ [bt8 u j]) (by omega) (by simp only [List.length_append, List.length_cons, List.length_nil]; omega)
    rw [List.append_assoc, show [bt8 u j] ++ byB u j = byB u (j + 1) from rfl] at g
    refine aw_iload dX4_writeNumber_55 0 rfl ?_
    refine aw_if_lt 86 dX4_writeNumber_57 (by decide) (fun c1 => absurd c1 n0) (fun c1 => ?_)
    refine aw_aload_n dX4_writeNumber_60 3 rfl ?_
    refine aw_getR (b := so) dX4_writeNumber_61 fl_X4_26 rfl ((sT_emM M so 1 (so + 1) l).wr hW).1 ((sT_emM M so 1 (so + 1) l).wr hW).2.1 ((sT_emM M so 1 (so + 1) l).wr hW).2.2.2.1 ?_
    refine aw_lload dX4_writeNumber_64 1 rfl ?_
    refine aw_bipush (v := 8) dX4_writeNumber_66 (by decide) ?_
    refine aw_iload dX4_writeNumber_68 0 rfl ?_
    refine aw_imulN 8 j dX4_writeNumber_70 rfl rfl ?_
    refine aw_lshr dX4_writeNumber_71 ?_
    refine aw_l2i dX4_writeNumber_72 ?_
    refine aw_sipush (v := 255) dX4_writeNumber_73 (by decide) ?_
    refine aw_iand dX4_writeNumber_76 ?_
    refine aw_callVv [.int ((Int64.toInt32 (u >>> ((Int32.toInt64 (nI (8 * j))) &&& 63))) &&& 255)] [] (sp_add (d := d - 1) (by omega) (l := l) ((Int64.toInt32 (u >>> ((Int32.toInt64 (nI (8 * j))) &&& 63))) &&& 255) hW.2.2.2.2.2.2.2.1 (by first | omega | (simp only [List.length_append, List.length_cons, List.length_nil, byB_len] at *; omega))) dX4_writeNumber_77 ml_X4_56 im_X3_add ((sT_emM M so 1 (so + 1) l).wr hW).2.2.2.2.2.2.2.1.1 ((sT_emM M so 1 (so + 1) l).wr hW).2.2.2.2.2.2.2.1.n0 rfl rfl (dl1 (d := d) (by omega)) rfl rfl (Nat.le_of_ble_eq_true rfl) rfl rfl (Nat.zero_le _) (Nat.zero_le _) ?_
    obtain ⟨v2, ev2⟩ : ∃ y : Int32, y = (nI j) + (-1) := ⟨_, rfl⟩
    refine aw_iinc v2 [(7, .int v2), (5, .long u), (4, .int f), (0, .ref w), (1, .int (nI k)), (2, .long v)] dX4_writeNumber_80 0 rfl (by rw [ev2]; rfl) (Nat.le_of_ble_eq_true rfl) rfl ?_
    refine aw_goto 55 dX4_writeNumber_83 (by decide) ?_
    rw [show v2 = dn j from (ev2).trans (dn_s j)]
    exact g
theorem sp_wn {d : Nat} (hd : 3 ≤ d) {M : xM} {w rw so : Nat} {l : List Int32} (k : Nat) (v : Int64) (hk : k < 8) (hW : WrAt M w rw so) (hl : l.length + (nuC k v).length ≤ 1464) : Sp (fX4_writeNumber d) [.ref w, .int (nI k), .long v] (emM M so 1 (so + 1) l) (dt none (emM M so 1 (so + 1) (l ++ nuC k v))) := by
  refine Sp.of pn_X4 (Nat.le_of_ble_eq_true rfl) (fun h => Bool.noConfusion h) ?_
  have hw8 := (wd_dec k hk).2
  unfold nuC at hl ⊢
  by_cases c : k < 6
  · rw [if_pos c] at hl ⊢
    rw [byB_len] at hl
    refine aw_iload_n dX4_writeNumber_0 1 rfl ?_
    refine aw_bipush (v := 6) dX4_writeNumber_1 (by decide) ?_
    refine aw_icmp_ltN k 6 10 dX4_writeNumber_3 (by decide) rfl rfl (by omega) (by omega) (fun c1 => ?_) (fun c1 => absurd c c1)
    refine aw_iconst (v := 0) dX4_writeNumber_10 (by decide) ?_
    refine aw_istore [(4, .int 0), (0, .ref w), (1, .int (nI k)), (2, .long v)] dX4_writeNumber_11 (Nat.le_of_ble_eq_true rfl) rfl ?_
    refine aw_iload dX4_writeNumber_13 0 rfl ?_
    refine aw_if_eq 30 dX4_writeNumber_15 (by decide) (fun c2 => ?_) (fun c2 => absurd rfl c2)
    refine aw_iload dX4_writeNumber_30 0 rfl ?_
    refine aw_if_eq 43 dX4_writeNumber_32 (by decide) (fun c3 => ?_) (fun c3 => absurd rfl c3)
    refine aw_lload_n dX4_writeNumber_43 3 rfl ?_
    refine aw_lstore [(5, .long v), (4, .int 0), (0, .ref w), (1, .int (nI k)), (2, .long v)] dX4_writeNumber_44 (Nat.le_of_ble_eq_true rfl) rfl ?_
    refine aw_gets (j := 3) dX4_writeNumber_46 (by decide) fs_X4_120 ?_
    refine aw_iload_n dX4_writeNumber_49 3 rfl ?_
    refine aw_siald (v := tWIDTHS.getD k 0) (j := 3) dX4_writeNumber_50 (by decide) rfl (show vp_in (nI k) 8 from vp_in_nI hk (by decide)) (by rw [nI_clamp (by omega)]; rfl) ?_
    refine aw_iconst (v := 1) dX4_writeNumber_51 (by decide) ?_
    refine aw_isub dX4_writeNumber_52 ?_
    refine aw_topE (wd_dec k hk).1 ?_
    refine aw_istore [(7, .int (dn (wdK k))), (5, .long v), (4, .int 0), (0, .ref w), (1, .int (nI k)), (2, .long v)] dX4_writeNumber_53 (Nat.le_of_ble_eq_true rfl) rfl ?_
    exact lp_wn hd v v 0 hW (wdK k) l hw8 hl
  · rw [if_neg c] at hl ⊢
    rw [List.length_cons, byB_len] at hl
    refine aw_iload_n dX4_writeNumber_0 1 rfl ?_
    refine aw_bipush (v := 6) dX4_writeNumber_1 (by decide) ?_
    refine aw_icmp_ltN k 6 10 dX4_writeNumber_3 (by decide) rfl rfl (by omega) (by omega) (fun c1 => absurd c1 c) (fun c1 => ?_)
    refine aw_iconst (v := 1) dX4_writeNumber_6 (by decide) ?_
    refine aw_goto 11 dX4_writeNumber_7 (by decide) ?_
    refine aw_istore [(4, .int 1), (0, .ref w), (1, .int (nI k)), (2, .long v)] dX4_writeNumber_11 (Nat.le_of_ble_eq_true rfl) rfl ?_
    refine aw_iload dX4_writeNumber_13 0 rfl ?_
    refine aw_if_eq 30 dX4_writeNumber_15 (by decide) (fun c2 => absurd c2 (by decide)) (fun c2 => ?_)
    refine aw_aload_n dX4_writeNumber_18 1 rfl ?_
    refine aw_getR (b := so) dX4_writeNumber_19 fl_X4_26 rfl ((sT_emM M so 1 (so + 1) l).wr hW).1 ((sT_emM M so 1 (so + 1) l).wr hW).2.1 ((sT_emM M so 1 (so + 1) l).wr hW).2.2.2.1 ?_
    refine aw_iload_n dX4_writeNumber_22 2 rfl ?_
    refine aw_lload_n dX4_writeNumber_23 3 rfl ?_
    refine aw_callSi [.int (nI k), .long v] [.ref so] (sp_X0_powerPart (d := d - 1) (by omega) (nI k) v) dX4_writeNumber_24 ml_X4_112 sm_X0_powerPart rfl (dl1 (d := d) (by omega)) rfl rfl (Nat.le_of_ble_eq_true rfl) rfl rfl (Nat.zero_le _) (Nat.zero_le _) ?_
    refine aw_callVv [.int (sX0_powerPart (nI k) v)] [] (sp_add (d := d - 1) (by omega) (l := l) (sX0_powerPart (nI k) v) hW.2.2.2.2.2.2.2.1 (by omega)) dX4_writeNumber_27 ml_X4_56 im_X3_add ((sT_emM M so 1 (so + 1) l).wr hW).2.2.2.2.2.2.2.1.1 ((sT_emM M so 1 (so + 1) l).wr hW).2.2.2.2.2.2.2.1.n0 rfl rfl (dl1 (d := d) (by omega)) rfl rfl (Nat.le_of_ble_eq_true rfl) rfl rfl (Nat.zero_le _) (Nat.zero_le _) ?_
    refine aw_iload dX4_writeNumber_30 0 rfl ?_
    refine aw_if_eq 43 dX4_writeNumber_32 (by decide) (fun c3 => absurd c3 (by decide)) (fun c3 => ?_)
    refine aw_iload_n dX4_writeNumber_35 2 rfl ?_
    refine aw_lload_n dX4_writeNumber_36 3 rfl ?_
    refine aw_callSl [.int (nI k), .long v] [] (sp_X0_oddPart (d := d - 1) (by omega) (nI k) v) dX4_writeNumber_37 ml_X4_116 sm_X0_oddPart rfl (dl1 (d := d) (by omega)) rfl rfl (Nat.le_of_ble_eq_true rfl) rfl rfl (Nat.zero_le _) (Nat.zero_le _) ?_
    refine aw_goto 44 dX4_writeNumber_40 (by decide) ?_
    refine aw_lstore [(5, .long (sX0_oddPart (nI k) v)), (4, .int 1), (0, .ref w), (1, .int (nI k)), (2, .long v)] dX4_writeNumber_44 (Nat.le_of_ble_eq_true rfl) rfl ?_
    refine aw_gets (j := 3) dX4_writeNumber_46 (by decide) fs_X4_120 ?_
    refine aw_iload_n dX4_writeNumber_49 3 rfl ?_
    refine aw_siald (v := tWIDTHS.getD k 0) (j := 3) dX4_writeNumber_50 (by decide) rfl (show vp_in (nI k) 8 from vp_in_nI hk (by decide)) (by rw [nI_clamp (by omega)]; rfl) ?_
    refine aw_iconst (v := 1) dX4_writeNumber_51 (by decide) ?_
    refine aw_isub dX4_writeNumber_52 ?_
    refine aw_topE (wd_dec k hk).1 ?_
    refine aw_istore [(7, .int (dn (wdK k))), (5, .long (sX0_oddPart (nI k) v)), (4, .int 1), (0, .ref w), (1, .int (nI k)), (2, .long v)] dX4_writeNumber_53 (Nat.le_of_ble_eq_true rfl) rfl ?_
    have g := lp_wn hd (k := k) v (sX0_oddPart (nI k) v) 1 hW (wdK k) (l ++ [sX0_powerPart (nI k) v]) hw8 (by rw [List.length_append, List.length_cons, List.length_nil]; omega)
    rw [List.append_assoc] at g
    exact g
theorem sp_wh {d : Nat} (hd : 1 ≤ d) {M : xM} {w rw so : Nat} {l : List Int32} {r : Nat} (f k z : Nat) (hW : WrAt M w rw so) (hR : RowAt M r) (hr : so + 1 < r) (hk : mI M r 0 = nI k) (hz : mI M r 1 = nI z) (hl : l.length + 2 ≤ 1464) : Sp (fX4_writeHead d) [.ref w, .int (nI f), .ref r] (emM M so 1 (so + 1) l) (dt none (emM M so 1 (so + 1) (l ++ [nI (16 * (f + 1) + k), nI z]))) := by
  refine Sp.of pn_X4 (Nat.le_of_ble_eq_true rfl) (fun h => Bool.noConfusion h) ?_
  refine aw_aload_n dX4_writeHead_0 0 rfl ?_
  refine aw_getR (b := so) dX4_writeHead_1 fl_X4_26 rfl ((sT_emM M so 1 (so + 1) l).wr hW).1 ((sT_emM M so 1 (so + 1) l).wr hW).2.1 ((sT_emM M so 1 (so + 1) l).wr hW).2.2.2.1 ?_
  refine aw_bipush (v := 16) dX4_writeHead_4 (by decide) ?_
  refine aw_iload_n dX4_writeHead_6 1 rfl ?_
  refine aw_iconst (v := 1) dX4_writeHead_7 (by decide) ?_
  refine aw_iaddN f 1 dX4_writeHead_8 rfl rfl ?_
  refine aw_imulN 16 (f + 1) dX4_writeHead_9 rfl rfl ?_
  refine aw_aload_n dX4_writeHead_10 2 rfl ?_
  refine aw_getI dX4_writeHead_11 fl_X4_45 ((sT_emM M so 1 (so + 1) l).row hR).1 ((sT_emM M so 1 (so + 1) l).row hR).n0 ?_
  refine aw_topE ((congrFun (emM_I M l (show r ≠ so by omega) (show r ≠ so + 1 by omega)) 0).trans hk) ?_
  refine aw_iaddN (16 * (f + 1)) k dX4_writeHead_14 rfl rfl ?_
  refine aw_callVv [.int (nI ((16 * (f + 1)) + k))] [] (sp_add (d := d - 1) (by omega) (l := l) (nI ((16 * (f + 1)) + k)) hW.2.2.2.2.2.2.2.1 (by first | omega | (simp only [List.length_append, List.length_cons, List.length_nil, byB_len] at *; omega))) dX4_writeHead_15 ml_X4_56 im_X3_add ((sT_emM M so 1 (so + 1) l).wr hW).2.2.2.2.2.2.2.1.1 ((sT_emM M so 1 (so + 1) l).wr hW).2.2.2.2.2.2.2.1.n0 rfl rfl (dl1 (d := d) (by omega)) rfl rfl (Nat.le_of_ble_eq_true rfl) rfl rfl (Nat.zero_le _) (Nat.zero_le _) ?_
  refine aw_aload_n dX4_writeHead_18 0 rfl ?_
  refine aw_getR (b := so) dX4_writeHead_19 fl_X4_26 rfl ((sT_emM M so 1 (so + 1) (l ++ [nI ((16 * (f + 1)) + k)])).wr hW).1 ((sT_emM M so 1 (so + 1) (l ++ [nI ((16 * (f + 1)) + k)])).wr hW).2.1 ((sT_emM M so 1 (so + 1) (l ++ [nI ((16 * (f + 1)) + k)])).wr hW).2.2.2.1 ?_
  refine aw_aload_n dX4_writeHead_22 2 rfl ?_
  refine aw_getI dX4_writeHead_23 fl_X4_73 ((sT_emM M so 1 (so + 1) (l ++ [nI ((16 * (f + 1)) + k)])).row hR).1 ((sT_emM M so 1 (so + 1) (l ++ [nI ((16 * (f + 1)) + k)])).row hR).n0 ?_
  refine aw_topE ((congrFun (emM_I M (l ++ [nI ((16 * (f + 1)) + k)]) (show r ≠ so by omega) (show r ≠ so + 1 by omega)) 1).trans hz) ?_
  refine aw_callVv [.int (nI z)] [] (sp_add (d := d - 1) (by omega) (l := l ++ [nI ((16 * (f + 1)) + k)]) (nI z) hW.2.2.2.2.2.2.2.1 (by first | omega | (simp only [List.length_append, List.length_cons, List.length_nil, byB_len] at *; omega))) dX4_writeHead_26 ml_X4_56 im_X3_add ((sT_emM M so 1 (so + 1) (l ++ [nI ((16 * (f + 1)) + k)])).wr hW).2.2.2.2.2.2.2.1.1 ((sT_emM M so 1 (so + 1) (l ++ [nI ((16 * (f + 1)) + k)])).wr hW).2.2.2.2.2.2.2.1.n0 rfl rfl (dl1 (d := d) (by omega)) rfl rfl (Nat.le_of_ble_eq_true rfl) rfl rfl (Nat.zero_le _) (Nat.zero_le _) ?_
  refine aw_ret dX4_writeHead_29 rfl (Nat.zero_le _) (Nat.zero_le _) ?_
  exact ⟨rfl, by rw [List.append_assoc]; rfl⟩
def flB (k : Nat) (V : Nat → Int64) : Nat → Nat → List Int32
  | 0, _ => []
  | n + 1, i => nuC k (V i) ++ flB k V n (i + 1)
theorem flB_len {k : Nat} (hk : k < 8) (V : Nat → Int64) : ∀ n i, (flB k V n i).length ≤ 9 * n
  | 0, _ => Nat.le_refl _
  | n + 1, i => by
    have h1 := nuC_len hk (V i)
    have h2 := flB_len hk V n (i + 1)
    show (nuC k (V i) ++ flB k V n (i + 1)).length ≤ _
    rw [List.length_append]
    omega
theorem lp_wf {d : Nat} (hd : 4 ≤ d) {M : xM} {w rw so : Nat} {r : Nat} (k z : Nat) (V : Nat → Int64) (hk8 : k < 8) (hW : WrAt M w rw so) (hR : RowAt M r) (hr : so + 1 < r) (hk : mI M r 0 = nI k) (hz : mI M r 1 = nI z) (hz2 : z ≤ 12) (hV : ∀ i, i < z → mL M (r + 2) i = V i) : ∀ (n i : Nat) (l : List Int32), i + n = z → l.length + 9 * n ≤ 1464 → AW (fX4_writeFlat d) 2 [(2, .int (nI i)), (0, .ref w), (1, .ref r)] [] (emM M so 1 (so + 1) l) 0 0 (dt none (emM M so 1 (so + 1) (l ++ flB k V n i))) := by
  intro n
  induction n with
  | zero =>
    intro i l hi hl
    rw [show l ++ flB k V 0 i = l from List.append_nil l]
    refine aw_iload_n dX4_writeFlat_2 0 rfl ?_
    refine aw_aload_n dX4_writeFlat_3 2 rfl ?_
    refine aw_getI dX4_writeFlat_4 fl_X4_73 ((sT_emM M so 1 (so + 1) l).row hR).1 ((sT_emM M so 1 (so + 1) l).row hR).n0 ?_
    refine aw_topE ((congrFun (emM_I M l (show r ≠ so by omega) (show r ≠ so + 1 by omega)) 1).trans hz) ?_
    refine aw_icmp_geN i z 30 dX4_writeFlat_7 (by decide) rfl rfl (by omega) (by omega) (fun c1 => ?_) (fun c1 => absurd (by omega) c1)
    refine aw_ret dX4_writeFlat_30 rfl (Nat.zero_le _) (Nat.zero_le _) ?_
    exact ⟨rfl, rfl⟩
  | succ n ih =>
    intro i l hi hl
    have hln := nuC_len hk8 (V i)
    have g := ih (i + 1) (l ++ nuC k (V i)) (by omega) (by rw [List.length_append]; omega)
    rw [List.append_assoc] at g
    refine aw_iload_n dX4_writeFlat_2 0 rfl ?_
    refine aw_aload_n dX4_writeFlat_3 2 rfl ?_
    refine aw_getI dX4_writeFlat_4 fl_X4_73 ((sT_emM M so 1 (so + 1) l).row hR).1 ((sT_emM M so 1 (so + 1) l).row hR).n0 ?_
    refine aw_topE ((congrFun (emM_I M l (show r ≠ so by omega) (show r ≠ so + 1 by omega)) 1).trans hz) ?_
    refine aw_icmp_geN i z 30 dX4_writeFlat_7 (by decide) rfl rfl (by omega) (by omega) (fun c1 => absurd c1 (by omega)) (fun c1 => ?_)
    refine aw_aload_n dX4_writeFlat_10 1 rfl ?_
    refine aw_aload_n dX4_writeFlat_11 2 rfl ?_
    refine aw_getI dX4_writeFlat_12 fl_X4_45 ((sT_emM M so 1 (so + 1) l).row hR).1 ((sT_emM M so 1 (so + 1) l).row hR).n0 ?_
    refine aw_topE ((congrFun (emM_I M l (show r ≠ so by omega) (show r ≠ so + 1 by omega)) 0).trans hk) ?_
    refine aw_aload_n dX4_writeFlat_15 2 rfl ?_
    refine aw_getR (b := r + 2) dX4_writeFlat_16 fl_X4_48 rfl ((sT_emM M so 1 (so + 1) l).row hR).1 ((sT_emM M so 1 (so + 1) l).row hR).n0 ((sT_emM M so 1 (so + 1) l).row hR).2.2.2.2.1 ?_
    refine aw_iload_n dX4_writeFlat_19 0 rfl ?_
    refine aw_laldN i dX4_writeFlat_20 ((sT_emM M so 1 (so + 1) l).row hR).2.2.1 ((sT_emM M so 1 (so + 1) l).row hR).n2 rfl (by omega) (by first | decide | omega) ?_
    refine aw_toplE (hV i (by omega)) ?_
    refine aw_callVv [.int (nI k), .long (V i)] [] (sp_wn (d := d - 1) (by omega) (l := l) k (V i) hk8 hW (by omega)) dX4_writeFlat_21 ml_X4_87 im_X4_writeNumber ((sT_emM M so 1 (so + 1) l).wr hW).1 ((sT_emM M so 1 (so + 1) l).wr hW).2.1 rfl rfl (dl1 (d := d) (by omega)) rfl rfl (Nat.le_of_ble_eq_true rfl) rfl rfl (Nat.zero_le _) (Nat.zero_le _) ?_
    refine aw_iincN i 1 [(2, .int (nI (i + 1))), (0, .ref w), (1, .ref r)] dX4_writeFlat_24 0 rfl rfl rfl (Nat.le_of_ble_eq_true rfl) rfl ?_
    refine aw_goto 2 dX4_writeFlat_27 (by decide) ?_
    exact g
theorem sp_wf {d : Nat} (hd : 4 ≤ d) {M : xM} {w rw so : Nat} {l : List Int32} {r : Nat} (k z : Nat) (V : Nat → Int64) (hk8 : k < 8) (hW : WrAt M w rw so) (hR : RowAt M r) (hr : so + 1 < r) (hk : mI M r 0 = nI k) (hz : mI M r 1 = nI z) (hz2 : z ≤ 12) (hV : ∀ i, i < z → mL M (r + 2) i = V i) (hl : l.length + 9 * z ≤ 1464) : Sp (fX4_writeFlat d) [.ref w, .ref r] (emM M so 1 (so + 1) l) (dt none (emM M so 1 (so + 1) (l ++ flB k V z 0))) := by
  refine Sp.of pn_X4 (Nat.le_of_ble_eq_true rfl) (fun h => Bool.noConfusion h) ?_
  refine aw_iconst (v := 0) dX4_writeFlat_0 (by decide) ?_
  refine aw_istore_n [(2, .int 0), (0, .ref w), (1, .ref r)] dX4_writeFlat_1 (Nat.le_of_ble_eq_true rfl) rfl ?_
  exact lp_wf hd k z V hk8 hW hR hr hk hz hz2 hV z 0 l (by omega) hl
