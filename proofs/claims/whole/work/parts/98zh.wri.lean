-- AN ITEM: the class
def w0M (M : xM) (w so m : Nat) : xM := stI (stI (stI M so 1 0) w 3 0) w 4 (nI m)
def wrM (M : xM) (w so m : Nat) : xM := flI (w0M M w so m) (w + 1) 0 12 (fun _ => -1)
theorem sT_wrM (M : xM) (w so m : Nat) : sT M (wrM M w so m) := ⟨rfl, rfl, rfl⟩
theorem wrM_L (M : xM) (w so m : Nat) : mL (wrM M w so m) = mL M := rfl
theorem wrM_I (M : xM) {w so x : Nat} (m : Nat) (h1 : x ≠ so) (h2 : x ≠ w) (h3 : x ≠ w + 1) : mI (wrM M w so m) x = mI M x := by
  unfold wrM w0M
  rw [mI_flI_ne _ h3, mI_stI_c _ _ _ h2, mI_stI_c _ _ _ h2, mI_stI_c _ _ _ h1]
theorem wrM_f (M : xM) (w so m : Nat) : mI (wrM M w so m) w 4 = nI m := by
  unfold wrM w0M
  rw [mI_flI_ne _ (show w ≠ w + 1 by omega), mI_stI_v]
theorem wrM_k (M : xM) (w so m : Nat) : mI (wrM M w so m) w 3 = 0 := by
  unfold wrM w0M
  rw [mI_flI_ne _ (show w ≠ w + 1 by omega), mI_stI_o _ _ _ _ (by decide), mI_stI_v]
theorem wrM_s (M : xM) {w so : Nat} (m : Nat) (h : so + 1 < w) : mI (wrM M w so m) so 1 = 0 := by
  unfold wrM w0M
  rw [mI_flI_ne _ (show so ≠ w + 1 by omega), mI_stI_c _ _ _ (show so ≠ w by omega), mI_stI_c _ _ _ (show so ≠ w by omega), mI_stI_v]
theorem flI_fl (M : xM) (a n : Nat) (g : Nat → Int32) : flI (flI M a 0 n g) a 0 n g = flI M a 0 n g := by
  have e : xfl (xfl M.1 a 0 n g) a 0 n g = xfl M.1 a 0 n g := by
    funext p q
    unfold xfl
    by_cases c : p = a ∧ 0 ≤ q ∧ q < 0 + n
    · simp only [c, if_true]
      simp
    · simp only [c, if_false]
  exact Prod.ext e rfl
theorem wrM_n (M : xM) {w so : Nat} (m : Nat) (h : so + 1 < w) : emM (nuM (wrM M w so m) w []) so 1 (so + 1) [] = wrM M w so m := by
  have e : nuM (wrM M w so m) w [] = wrM M w so m := by
    unfold nuM
    rw [show (fun t => if t ∈ ([] : List Nat) then nI (([] : List Nat).idxOf t) else -1) = (fun _ => (-1 : Int32)) from funext fun t => if_neg List.not_mem_nil]
    rw [show flI (wrM M w so m) (w + 1) 0 12 (fun _ => -1) = wrM M w so m from flI_fl _ _ _ _]
    exact stI_same (wrM_k M w so m)
  rw [e]
  exact emM_0 (wrM_s M m h)
def WrR (M : xM) (w rw so : Nat) (K Z : Nat → Nat) (W : Nat → Nat → Nat) (V : Nat → Nat → Int64) : Prop := WrAt M w rw so ∧ so + 1 < w ∧ lkOk K Z W V ∧ ∀ t, t < 12 → K t < 16 → ∃ r, mR M rw t = some r ∧ RowAt M r ∧ so + 1 < r ∧ (r + 2 < w ∨ w + 1 < r) ∧ mI M r 0 = nI (K t) ∧ mI M r 1 = nI (Z t) ∧ (14 ≤ K t → mL M (r + 2) 0 = V t 0) ∧ ∀ j, j < Z t → mI M (r + 1) j = nI (W t j) ∧ mL M (r + 2) j = V t j
theorem WrR_D {M : xM} {w rw so : Nat} {K Z : Nat → Nat} {W : Nat → Nat → Nat} {V : Nat → Nat → Int64} (h : WrR M w rw so K Z W V) {m : Nat} (hm : m < 3) : WrD (wrM M w so m) w rw so m K Z W V := by
  obtain ⟨h1, h2, h3, h4⟩ := h
  have hT := sT_wrM M w so m
  refine ⟨hT.wr h1, h2, hm, wrM_f M w so m, h3, fun t ht hk => ?_⟩
  obtain ⟨r, a1, a2, a3, a4, a5, a6, -, a7⟩ := h4 t ht (by omega)
  have eI : ∀ x, so + 1 < x → x ≠ w → x ≠ w + 1 → mI (wrM M w so m) x = mI M x := fun x p q s => wrM_I M m (by omega) q s
  refine ⟨r, a1, hT.row a2, a3, a4, ?_, ?_, fun j hj => ⟨?_, (a7 j hj).2⟩⟩
  · rw [eI r a3 (by omega) (by omega)]; exact a5
  · rw [eI r a3 (by omega) (by omega)]; exact a6
  · rw [eI (r + 1) (by omega) (by omega) (by omega)]; exact (a7 j hj).1
/-- an item's bytes -/
def itR (m : Nat) (K Z : Nat → Nat) (W : Nat → Nat → Nat) (V : Nat → Nat → Int64) (t : Nat) : List Int32 × List Nat := if K t < 14 then wA m K Z W V 12 t [] else (elB (if K t = 15 then 8 else 9) (V t 0), [])
theorem ms_nil : msOk [] := ⟨List.nodup_nil, fun x h => absurd h List.not_mem_nil⟩
theorem itR_len {m : Nat} {K Z : Nat → Nat} {W : Nat → Nat → Nat} {V : Nat → Nat → Int64} (hL : lkOk K Z W V) {t : Nat} (ht : t < 12) : (itR m K Z W V t).1.length ≤ 1464 := by
  unfold itR
  by_cases c : K t < 14
  · rw [if_pos c]
    obtain ⟨h1, -, -, h3⟩ := wA_inv (m := m) hL 12 t [] ht c ms_nil
    have h4 := ms_len h1
    have h5 := h3 List.not_mem_nil
    rw [show ([] : List Nat).length = 0 from rfl] at h5
    omega
  · rw [if_neg c]
    have := elB_len (if K t = 15 then 8 else 9) (V t 0)
    show (elB _ _).length ≤ _
    omega
theorem lp_w0 {d : Nat} {M : xM} {w rw so t m : Nat} (hW : WrAt M w rw so) {post : Option Value → xM → Prop} (hk : AW (fX4_write d) 39 [(3, .int (nI 12)), (0, .ref w), (1, .int (nI t)), (2, .int (nI m))] [] (flI M (w + 1) 0 12 (fun _ => -1)) 0 0 post) : ∀ n i, i + n = 12 → AW (fX4_write d) 20 [(3, .int (nI i)), (0, .ref w), (1, .int (nI t)), (2, .int (nI m))] [] (flI M (w + 1) 0 i (fun _ => -1)) 0 0 post := by
  intro n
  induction n with
  | zero =>
    intro i hi
    obtain rfl : i = 12 := by omega
    refine aw_iload_n dX4_write_20 0 rfl ?_
    refine aw_bipush (v := 12) dX4_write_21 (by decide) ?_
    refine aw_icmp_geN 12 12 39 dX4_write_23 (by decide) rfl rfl (by omega) (by omega) (fun c1 => ?_) (fun c1 => absurd (by omega) c1)
    exact hk
  | succ n ih =>
    intro i hi
    have g := ih (i + 1) (by omega)
    rw [← flI_s M (w + 1) 0 i (fun _ => -1) (v := -1) rfl, Nat.zero_add] at g
    refine aw_iload_n dX4_write_20 0 rfl ?_
    refine aw_bipush (v := 12) dX4_write_21 (by decide) ?_
    refine aw_icmp_geN i 12 39 dX4_write_23 (by decide) rfl rfl (by omega) (by omega) (fun c1 => absurd c1 (by omega)) (fun c1 => ?_)
    refine aw_aload_n dX4_write_26 1 rfl ?_
    refine aw_getR (b := w + 1) dX4_write_27 fl_X4_9 rfl hW.1 hW.2.1 hW.2.2.2.2.1 ?_
    refine aw_iload_n dX4_write_30 0 rfl ?_
    refine aw_iconst (v := -1) dX4_write_31 (by decide) ?_
    refine aw_iastN i dX4_write_32 hW.2.2.2.2.2.1 hW.2.2.2.2.2.2.1 rfl (by omega) (by first | decide | omega) ?_
    refine aw_iincN i 1 [(3, .int (nI (i + 1))), (0, .ref w), (1, .int (nI t)), (2, .int (nI m))] dX4_write_33 0 rfl rfl rfl (Nat.le_of_ble_eq_true rfl) rfl ?_
    refine aw_goto 20 dX4_write_36 (by decide) ?_
    exact g
theorem sp_write {d : Nat} (hd : 48 ≤ d) {M : xM} {w rw so m t : Nat} {K Z : Nat → Nat} {W : Nat → Nat → Nat} {V : Nat → Nat → Int64} (hD : WrR M w rw so K Z W V) (hm : m < 3) (ht : t < 12) (hk : K t < 16) (hk15 : K t = 15 → ∃ c, c < 2 ^ 63 ∧ V t 0 = lN c) : Sp (fX4_write d) [.ref w, .int (nI t), .int (nI m)] M (dt none (emM (nuM (wrM M w so m) w (itR m K Z W V t).2) so 1 (so + 1) (itR m K Z W V t).1)) := by
  refine Sp.of pn_X4 (Nat.le_of_ble_eq_true rfl) (fun h => Bool.noConfusion h) ?_
  have hWD := WrR_D hD hm
  obtain ⟨hW, hw, hL, hrows⟩ := hD
  obtain ⟨r, a1, hR, a3, a4, a5, a6, a8, a7⟩ := hrows t ht hk
  have hWB := (sT_wrM M w so m).wr hW
  have hRB := (sT_wrM M w so m).row hR
  have ekB : mI (wrM M w so m) r 0 = nI (K t) := (congrFun (wrM_I M m (show r ≠ so by omega) (show r ≠ w by omega) (show r ≠ w + 1 by omega)) 0).trans a5
  have hia : sX2_isArray (wrM M w so m) r = decide (K t < 14) := by
    unfold sX2_isArray
    rw [ekB]
    exact (by decide : ∀ k, k < 16 → (if nI k < 0 then false else (if 13 < nI k then false else true)) = decide (k < 14)) (K t) hk
  have hcont : AW (fX4_write d) 39 [(3, .int (nI 12)), (0, .ref w), (1, .int (nI t)), (2, .int (nI m))] [] (wrM M w so m) 0 0 (dt none (emM (nuM (wrM M w so m) w (itR m K Z W V t).2) so 1 (so + 1) (itR m K Z W V t).1)) := by
    unfold itR
    by_cases c : K t < 14
    · rw [if_pos c]
      have hC := sp_wA hWD 12 (d - 1) t [] [] (by omega) ht c ms_nil (by decide) (Nat.le_refl _) (fun h => absurd h List.not_mem_nil)
      rw [wrM_n M m hw, List.nil_append] at hC
      refine aw_aload_n dX4_write_39 1 rfl ?_
      refine aw_getR (b := rw) dX4_write_40 fl_X4_22 rfl hWB.1 hWB.2.1 hWB.2.2.1 ?_
      refine aw_iload_n dX4_write_43 2 rfl ?_
      refine aw_aaldN t r dX4_write_44 hWB.2.2.2.2.2.2.2.2.1 hWB.2.2.2.2.2.2.2.2.2 rfl (by omega) (by first | decide | omega) a1 ?_
      refine aw_astore_n [(3, .ref r), (0, .ref w), (1, .int (nI t)), (2, .int (nI m))] dX4_write_45 (Nat.le_of_ble_eq_true rfl) rfl ?_
      refine aw_aload_n dX4_write_46 0 rfl ?_
      refine aw_callVi [] [] (sp_X2_isArray (d := d - 1) (by omega) (a := r) hRB) dX4_write_47 ml_X4_35 im_X2_isArray hRB.1 hRB.n0 rfl rfl (dl1 (d := d) (by omega)) rfl rfl (Nat.le_of_ble_eq_true rfl) rfl rfl (Nat.zero_le _) (Nat.zero_le _) ?_
      refine aw_if_eq 61 dX4_write_50 (by decide) (fun c1 => absurd c1 (bz_n0.mpr (hia.trans (decide_eq_true c)))) (fun c1 => ?_)
      refine aw_aload_n dX4_write_53 1 rfl ?_
      refine aw_iload_n dX4_write_54 2 rfl ?_
      refine aw_callVv [.int (nI t)] [] hC dX4_write_55 ml_X4_41 im_X4_writeArray hWB.1 hWB.2.1 rfl rfl (dl1 (d := d) (by omega)) rfl rfl (Nat.le_of_ble_eq_true rfl) rfl rfl (Nat.zero_le _) (Nat.zero_le _) ?_
      refine aw_goto 87 dX4_write_58 (by decide) ?_
      refine aw_ret dX4_write_87 rfl (Nat.zero_le _) (Nat.zero_le _) ?_
      exact ⟨rfl, rfl⟩
    · rw [if_neg c]
      dsimp only
      by_cases c5 : K t = 15
      · rw [if_pos c5]
        obtain ⟨y, y1, y2⟩ := hk15 c5
        have hN := (sT_nuM (wrM M w so m) w []).wr hWB
        have hC := sp_we8 (d := d - 1) (by omega) (l := []) y1 hN (by decide)
        rw [wrM_n M m hw, List.nil_append] at hC
        rw [y2]
        refine aw_aload_n dX4_write_39 1 rfl ?_
        refine aw_getR (b := rw) dX4_write_40 fl_X4_22 rfl hWB.1 hWB.2.1 hWB.2.2.1 ?_
        refine aw_iload_n dX4_write_43 2 rfl ?_
        refine aw_aaldN t r dX4_write_44 hWB.2.2.2.2.2.2.2.2.1 hWB.2.2.2.2.2.2.2.2.2 rfl (by omega) (by first | decide | omega) a1 ?_
        refine aw_astore_n [(3, .ref r), (0, .ref w), (1, .int (nI t)), (2, .int (nI m))] dX4_write_45 (Nat.le_of_ble_eq_true rfl) rfl ?_
        refine aw_aload_n dX4_write_46 0 rfl ?_
        refine aw_callVi [] [] (sp_X2_isArray (d := d - 1) (by omega) (a := r) hRB) dX4_write_47 ml_X4_35 im_X2_isArray hRB.1 hRB.n0 rfl rfl (dl1 (d := d) (by omega)) rfl rfl (Nat.le_of_ble_eq_true rfl) rfl rfl (Nat.zero_le _) (Nat.zero_le _) ?_
        refine aw_if_eq 61 dX4_write_50 (by decide) (fun c1 => ?_) (fun c1 => absurd (bz_0.mpr (hia.trans (decide_eq_false (by omega)))) c1)
        refine aw_aload_n dX4_write_61 1 rfl ?_
        refine aw_aload_n dX4_write_62 0 rfl ?_
        refine aw_getI dX4_write_63 fl_X4_45 hRB.1 hRB.n0 ?_
        refine aw_topE (ekB.trans (congrArg nI c5)) ?_
        refine aw_bipush (v := 15) dX4_write_66 (by decide) ?_
        refine aw_icmp_neN 15 15 76 dX4_write_68 (by decide) rfl rfl (by omega) (by omega) (fun c2 => absurd rfl c2) (fun c2 => ?_)
        refine aw_bipush (v := 8) dX4_write_71 (by decide) ?_
        refine aw_goto 78 dX4_write_73 (by decide) ?_
        refine aw_aload_n dX4_write_78 0 rfl ?_
        refine aw_getR (b := r + 2) dX4_write_79 fl_X4_48 rfl hRB.1 hRB.n0 hRB.2.2.2.2.1 ?_
        refine aw_iconst (v := 0) dX4_write_82 (by decide) ?_
        refine aw_laldN 0 dX4_write_83 hRB.2.2.1 hRB.n2 rfl (by omega) (by first | decide | omega) ?_
        refine aw_toplE ((a8 (by omega)).trans y2) ?_
        refine aw_callVv [.int 8, .long (lN y)] [] hC dX4_write_84 ml_X4_52 im_X4_writeTagged hWB.1 hWB.2.1 rfl rfl (dl1 (d := d) (by omega)) rfl rfl (Nat.le_of_ble_eq_true rfl) rfl rfl (Nat.zero_le _) (Nat.zero_le _) ?_
        refine aw_ret dX4_write_87 rfl (Nat.zero_le _) (Nat.zero_le _) ?_
        exact ⟨rfl, rfl⟩
      · rw [if_neg c5]
        have hN := (sT_nuM (wrM M w so m) w []).wr hWB
        have hC := sp_we9 (d := d - 1) (by omega) (l := []) (V t 0) hN (by decide)
        rw [wrM_n M m hw, List.nil_append] at hC
        refine aw_aload_n dX4_write_39 1 rfl ?_
        refine aw_getR (b := rw) dX4_write_40 fl_X4_22 rfl hWB.1 hWB.2.1 hWB.2.2.1 ?_
        refine aw_iload_n dX4_write_43 2 rfl ?_
        refine aw_aaldN t r dX4_write_44 hWB.2.2.2.2.2.2.2.2.1 hWB.2.2.2.2.2.2.2.2.2 rfl (by omega) (by first | decide | omega) a1 ?_
        refine aw_astore_n [(3, .ref r), (0, .ref w), (1, .int (nI t)), (2, .int (nI m))] dX4_write_45 (Nat.le_of_ble_eq_true rfl) rfl ?_
        refine aw_aload_n dX4_write_46 0 rfl ?_
        refine aw_callVi [] [] (sp_X2_isArray (d := d - 1) (by omega) (a := r) hRB) dX4_write_47 ml_X4_35 im_X2_isArray hRB.1 hRB.n0 rfl rfl (dl1 (d := d) (by omega)) rfl rfl (Nat.le_of_ble_eq_true rfl) rfl rfl (Nat.zero_le _) (Nat.zero_le _) ?_
        refine aw_if_eq 61 dX4_write_50 (by decide) (fun c1 => ?_) (fun c1 => absurd (bz_0.mpr (hia.trans (decide_eq_false (by omega)))) c1)
        refine aw_aload_n dX4_write_61 1 rfl ?_
        refine aw_aload_n dX4_write_62 0 rfl ?_
        refine aw_getI dX4_write_63 fl_X4_45 hRB.1 hRB.n0 ?_
        refine aw_topE (ekB.trans (congrArg nI (show K t = 14 by omega))) ?_
        refine aw_bipush (v := 15) dX4_write_66 (by decide) ?_
        refine aw_icmp_neN 14 15 76 dX4_write_68 (by decide) rfl rfl (by omega) (by omega) (fun c2 => ?_) (fun c2 => absurd c2 (by omega))
        refine aw_bipush (v := 9) dX4_write_76 (by decide) ?_
        refine aw_aload_n dX4_write_78 0 rfl ?_
        refine aw_getR (b := r + 2) dX4_write_79 fl_X4_48 rfl hRB.1 hRB.n0 hRB.2.2.2.2.1 ?_
        refine aw_iconst (v := 0) dX4_write_82 (by decide) ?_
        refine aw_laldN 0 dX4_write_83 hRB.2.2.1 hRB.n2 rfl (by omega) (by first | decide | omega) ?_
        refine aw_toplE (a8 (by omega)) ?_
        refine aw_callVv [.int 9, .long (V t 0)] [] hC dX4_write_84 ml_X4_52 im_X4_writeTagged hWB.1 hWB.2.1 rfl rfl (dl1 (d := d) (by omega)) rfl rfl (Nat.le_of_ble_eq_true rfl) rfl rfl (Nat.zero_le _) (Nat.zero_le _) ?_
        refine aw_ret dX4_write_87 rfl (Nat.zero_le _) (Nat.zero_le _) ?_
        exact ⟨rfl, rfl⟩
  refine aw_aload_n dX4_write_0 0 rfl ?_
  refine aw_getR (b := so) dX4_write_1 fl_X4_26 rfl hW.1 hW.2.1 hW.2.2.2.1 ?_
  refine aw_iconst (v := 0) dX4_write_4 (by decide) ?_
  refine aw_putI dX4_write_5 fl_X4_30 (Or.inl rfl) hW.2.2.2.2.2.2.2.1.1 hW.2.2.2.2.2.2.2.1.n0 ?_
  refine aw_aload_n dX4_write_8 0 rfl ?_
  refine aw_iconst (v := 0) dX4_write_9 (by decide) ?_
  refine aw_putI dX4_write_10 fl_X4_15 (Or.inl rfl) hW.1 hW.2.1 ?_
  refine aw_aload_n dX4_write_13 0 rfl ?_
  refine aw_iload_n dX4_write_14 2 rfl ?_
  refine aw_putI dX4_write_15 fl_X4_19 (Or.inl rfl) hW.1 hW.2.1 ?_
  refine aw_iconst (v := 0) dX4_write_18 (by decide) ?_
  refine aw_istore_n [(3, .int 0), (0, .ref w), (1, .int (nI t)), (2, .int (nI m))] dX4_write_19 (Nat.le_of_ble_eq_true rfl) rfl ?_
  refine aw_eqM (flI_0 (w0M M w so m) (w + 1) 0 (fun _ => -1)).symm ?_
  exact lp_w0 (M := w0M M w so m) hW hcont 12 0 (by omega)
