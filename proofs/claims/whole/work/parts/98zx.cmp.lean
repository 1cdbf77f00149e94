-- COMPARING AND APPENDING BYTES
def fdN (A B : Nat → Int32) : Nat → Nat → Nat
  | 0, i => i
  | n + 1, i => if A i = B i then fdN A B n (i + 1) else i
def fdR (e : Int32) (A B : Nat → Int32) (n i mn : Nat) (b : Prop) [Decidable b] : Int32 := if fdN A B n i < mn then nI (fdN A B n i) else if b then e else nI mn
theorem fdN_sym (A B : Nat → Int32) : ∀ n i, fdN A B n i = fdN B A n i
  | 0, _ => rfl
  | n + 1, i => by
    show (if A i = B i then fdN A B n (i + 1) else i) = (if B i = A i then fdN B A n (i + 1) else i)
    rw [fdN_sym A B n (i + 1)]
    by_cases c : A i = B i
    · rw [if_pos c, if_pos c.symm]
    · rw [if_neg c, if_neg (fun z => c z.symm)]
theorem fdN_c {A B A' B' : Nat → Int32} : ∀ n i m, i + n = m → (∀ j, j < m → A j = A' j ∧ B j = B' j) → fdN A B n i = fdN A' B' n i
  | 0, _, _, _, _ => rfl
  | n + 1, i, m, h, e => by
    show (if A i = B i then fdN A B n (i + 1) else i) = (if A' i = B' i then fdN A' B' n (i + 1) else i)
    rw [fdN_c n (i + 1) m (by omega) e, (e i (by omega)).1, (e i (by omega)).2]
theorem min_nI {a b : Nat} (ha : a < 2 ^ 31) (hb : b < 2 ^ 31) : (if nI b < nI a then nI b else nI a) = nI (min a b) := by
  by_cases c : b < a
  · rw [if_pos ((L32 hb ha).mpr c), Nat.min_eq_right (Nat.le_of_lt c)]
  · rw [if_neg (fun z => c ((L32 hb ha).mp z)), Nat.min_eq_left (by omega)]
theorem E32 {n m : Nat} (hn : n < 2 ^ 31) (hm : m < 2 ^ 31) : (nI n ≤ nI m) ↔ n ≤ m := by
  rw [← Int32.not_lt, L32 hm hn, Nat.not_lt]
def emA (M : xM) (a f c lo n : Nat) (g : Nat → Int32) : xM := stI (flI M c lo n g) a f (nI (lo + n))
theorem sT_emA (M : xM) (a f c lo n : Nat) (g : Nat → Int32) : sT M (emA M a f c lo n g) := ⟨rfl, rfl, rfl⟩
theorem emA_L (M : xM) (a f c lo n : Nat) (g : Nat → Int32) : mL (emA M a f c lo n g) = mL M := rfl
theorem emA_I (M : xM) {a f c lo n x : Nat} (g : Nat → Int32) (h1 : x ≠ a) (h2 : x ≠ c) : mI (emA M a f c lo n g) x = mI M x := by
  unfold emA
  rw [mI_stI_c _ _ _ h1, mI_flI_ne _ h2]
theorem emA_f (M : xM) (a f c lo n : Nat) (g : Nat → Int32) : mI (emA M a f c lo n g) a f = nI (lo + n) := mI_stI_v _ _ _ _
theorem emA_a (M : xM) {a f c lo n k : Nat} (g : Nat → Int32) (h : k ≠ f) (hc : a ≠ c) : mI (emA M a f c lo n g) a k = mI M a k := by
  unfold emA
  rw [mI_stI_o _ _ _ _ h, mI_flI_ne _ hc]
theorem emA_c (M : xM) {a f c lo n k : Nat} (g : Nat → Int32) (h : k < n) (hc : c ≠ a) : mI (emA M a f c lo n g) c (lo + k) = g k := by
  unfold emA
  rw [mI_stI_c _ _ _ hc]
  exact mI_flI_at M h
theorem emA_o (M : xM) {a f c lo n k : Nat} (g : Nat → Int32) (h : k < lo) (hc : c ≠ a) : mI (emA M a f c lo n g) c k = mI M c k := by
  unfold emA
  rw [mI_stI_c _ _ _ hc]
  show xfl M.1 c lo n g c k = _
  unfold xfl
  rw [if_neg (by omega)]
  rfl
theorem emA_s (M : xM) {a f c lo n : Nat} (g : Nat → Int32) {x : Int32} (hx : x = g n) (hc : c ≠ a) : stI (stI (emA M a f c lo n g) c (lo + n) x) a f (nI (lo + n + 1)) = emA M a f c lo (n + 1) g := by
  subst hx
  have e : xup (xup (xup (xfl M.1 c lo n g) a f (nI (lo + n))) c (lo + n) (g n)) a f (nI (lo + n + 1)) = xup (xfl M.1 c lo (n + 1) g) a f (nI (lo + (n + 1))) := by
    funext p q
    rw [show lo + (n + 1) = lo + n + 1 by omega]
    unfold xup xfl
    by_cases c1 : p = a
    · subst c1
      by_cases c2 : q = f
      · simp [c2]
      · simp [c2, Ne.symm hc]
    · by_cases c3 : p = c
      · subst c3
        simp only [c1, if_false, if_true, true_and]
        by_cases c4 : q = lo + n
        · subst c4
          rw [if_pos rfl, if_pos (by omega), Nat.add_sub_cancel_left]
        · rw [if_neg c4]
          by_cases c5 : lo ≤ q ∧ q < lo + n
          · rw [if_pos c5, if_pos (by omega)]
          · rw [if_neg c5, if_neg (by omega)]
      · simp [c1, c3]
  exact Prod.ext e rfl
theorem emA_0 {M : xM} {a f c lo : Nat} (g : Nat → Int32) (h : mI M a f = nI lo) : emA M a f c lo 0 g = M := by
  unfold emA
  rw [flI_0]
  exact stI_same h
theorem lp_fd {d : Nat} {M : xM} {n1 n2 mn : Nat} (hT : TC M) (h1 : mI M 4 1 = nI n1) (h2 : mI M 6 1 = nI n2) (b1 : n1 ≤ 1464) (b2 : n2 ≤ 1464) (hm1 : mn ≤ n1) (hm2 : mn ≤ n2) : ∀ n i, i + n = mn → AW (fX3_firstDifference d) 14 [(3, .int (nI i)), (2, .int (nI mn)), (0, .ref 4), (1, .ref 6)] [] M 0 0 (dt (some (.int (fdR (-4) (mI M 5) (mI M 7) n i mn (n1 = n2)))) M) := by
  intro n
  induction n with
  | zero =>
    intro i hi
    rw [show fdR (-4) (mI M 5) (mI M 7) 0 i mn (n1 = n2) = (if n1 = n2 then -4 else nI mn) from if_neg (show ¬ i < mn by omega)]
    refine aw_iload_n dX3_firstDifference_14 0 rfl ?_
    refine aw_iload_n dX3_firstDifference_15 1 rfl ?_
    refine aw_icmp_geN i mn 42 dX3_firstDifference_16 (by decide) rfl rfl (by omega) (by omega) (fun c1 => ?_) (fun c1 => absurd (by omega) c1)
    refine aw_aload_n dX3_firstDifference_42 2 rfl ?_
    refine aw_getI dX3_firstDifference_43 fl_X3_9 (hT.s 4 (by decide)) (hT.n 4 (by decide)) ?_
    refine aw_topE h1 ?_
    refine aw_aload_n dX3_firstDifference_46 3 rfl ?_
    refine aw_getI dX3_firstDifference_47 fl_X3_9 (hT.s 6 (by decide)) (hT.n 6 (by decide)) ?_
    refine aw_topE h2 ?_
    refine aw_icmp_neN n1 n2 58 dX3_firstDifference_50 (by decide) rfl rfl (by omega) (by omega) (fun c2 => ?_) (fun c2 => ?_)
    · refine aw_iload_n dX3_firstDifference_58 1 rfl ?_
      refine aw_iret dX3_firstDifference_59 rfl (Nat.zero_le _) (Nat.zero_le _) ?_
      exact ⟨congrArg (fun z => some (Value.int z)) (if_neg c2).symm, rfl⟩
    · refine aw_bipush (v := -4) dX3_firstDifference_53 (by decide) ?_
      refine aw_goto 59 dX3_firstDifference_55 (by decide) ?_
      refine aw_iret dX3_firstDifference_59 rfl (Nat.zero_le _) (Nat.zero_le _) ?_
      exact ⟨congrArg (fun z => some (Value.int z)) (if_pos c2).symm, rfl⟩
  | succ n ih =>
    intro i hi
    by_cases c : mI M 5 i = mI M 7 i
    · have g := ih (i + 1) (by omega)
      have e : fdN (mI M 5) (mI M 7) (n + 1) i = fdN (mI M 5) (mI M 7) n (i + 1) := if_pos c
      unfold fdR at g ⊢
      rw [e]
      refine aw_iload_n dX3_firstDifference_14 0 rfl ?_
      refine aw_iload_n dX3_firstDifference_15 1 rfl ?_
      refine aw_icmp_geN i mn 42 dX3_firstDifference_16 (by decide) rfl rfl (by omega) (by omega) (fun c1 => absurd c1 (by omega)) (fun c1 => ?_)
      refine aw_aload_n dX3_firstDifference_19 2 rfl ?_
      refine aw_getR (b := 5) dX3_firstDifference_20 fl_X3_15 rfl (hT.s 4 (by decide)) (hT.n 4 (by decide)) (hT.r 4 0 (by decide) (by decide)) ?_
      refine aw_iload_n dX3_firstDifference_23 0 rfl ?_
      refine aw_ialdN i dX3_firstDifference_24 (hT.s 5 (by decide)) (hT.n 5 (by decide)) rfl (by omega) (by first | decide | omega) ?_
      refine aw_aload_n dX3_firstDifference_25 3 rfl ?_
      refine aw_getR (b := 7) dX3_firstDifference_26 fl_X3_15 rfl (hT.s 6 (by decide)) (hT.n 6 (by decide)) (hT.r 6 0 (by decide) (by decide)) ?_
      refine aw_iload_n dX3_firstDifference_29 0 rfl ?_
      refine aw_ialdN i dX3_firstDifference_30 (hT.s 7 (by decide)) (hT.n 7 (by decide)) rfl (by omega) (by first | decide | omega) ?_
      refine aw_icmp_eq 36 dX3_firstDifference_31 (by decide) (fun c2 => ?_) (fun c2 => absurd c c2)
      refine aw_iincN i 1 [(3, .int (nI (i + 1))), (2, .int (nI mn)), (0, .ref 4), (1, .ref 6)] dX3_firstDifference_36 0 rfl rfl rfl (Nat.le_of_ble_eq_true rfl) rfl ?_
      refine aw_goto 14 dX3_firstDifference_39 (by decide) ?_
      exact g
    · have e : fdN (mI M 5) (mI M 7) (n + 1) i = i := if_neg c
      unfold fdR
      rw [e, if_pos (by omega)]
      refine aw_iload_n dX3_firstDifference_14 0 rfl ?_
      refine aw_iload_n dX3_firstDifference_15 1 rfl ?_
      refine aw_icmp_geN i mn 42 dX3_firstDifference_16 (by decide) rfl rfl (by omega) (by omega) (fun c1 => absurd c1 (by omega)) (fun c1 => ?_)
      refine aw_aload_n dX3_firstDifference_19 2 rfl ?_
      refine aw_getR (b := 5) dX3_firstDifference_20 fl_X3_15 rfl (hT.s 4 (by decide)) (hT.n 4 (by decide)) (hT.r 4 0 (by decide) (by decide)) ?_
      refine aw_iload_n dX3_firstDifference_23 0 rfl ?_
      refine aw_ialdN i dX3_firstDifference_24 (hT.s 5 (by decide)) (hT.n 5 (by decide)) rfl (by omega) (by first | decide | omega) ?_
      refine aw_aload_n dX3_firstDifference_25 3 rfl ?_
      refine aw_getR (b := 7) dX3_firstDifference_26 fl_X3_15 rfl (hT.s 6 (by decide)) (hT.n 6 (by decide)) (hT.r 6 0 (by decide) (by decide)) ?_
      refine aw_iload_n dX3_firstDifference_29 0 rfl ?_
      refine aw_ialdN i dX3_firstDifference_30 (hT.s 7 (by decide)) (hT.n 7 (by decide)) rfl (by omega) (by first | decide | omega) ?_
      refine aw_icmp_eq 36 dX3_firstDifference_31 (by decide) (fun c2 => absurd c2 c) (fun c2 => ?_)
      refine aw_iload_n dX3_firstDifference_34 0 rfl ?_
      refine aw_iret dX3_firstDifference_35 rfl (Nat.zero_le _) (Nat.zero_le _) ?_
      exact ⟨rfl, rfl⟩
theorem sp_fd {d : Nat} (hd : 1 ≤ d) {M : xM} {n1 n2 : Nat} (hT : TC M) (h1 : mI M 4 1 = nI n1) (h2 : mI M 6 1 = nI n2) (b1 : n1 ≤ 1464) (b2 : n2 ≤ 1464) : Sp (fX3_firstDifference d) [.ref 4, .ref 6] M (dt (some (.int (fdR (-4) (mI M 5) (mI M 7) (min n1 n2) 0 (min n1 n2) (n1 = n2)))) M) := by
  refine Sp.of pn_X3 (Nat.le_of_ble_eq_true rfl) (fun h => Bool.noConfusion h) ?_
  refine aw_aload_n dX3_firstDifference_0 0 rfl ?_
  refine aw_getI dX3_firstDifference_1 fl_X3_9 (hT.s 4 (by decide)) (hT.n 4 (by decide)) ?_
  refine aw_topE h1 ?_
  refine aw_aload_n dX3_firstDifference_4 1 rfl ?_
  refine aw_getI dX3_firstDifference_5 fl_X3_9 (hT.s 6 (by decide)) (hT.n 6 (by decide)) ?_
  refine aw_topE h2 ?_
  refine aw_mmin dX3_firstDifference_8 mm_X3_29 mm_mins in_J9 mm_minc (show 1 ≤ d by omega) (Nat.le_of_ble_eq_true rfl) (Nat.zero_le _) (Nat.zero_le _) ?_
  refine aw_topE (min_nI (by omega) (by omega)) ?_
  refine aw_istore_n [(2, .int (nI (min n1 n2))), (0, .ref 4), (1, .ref 6)] dX3_firstDifference_11 (Nat.le_of_ble_eq_true rfl) rfl ?_
  refine aw_iconst (v := 0) dX3_firstDifference_12 (by decide) ?_
  refine aw_istore_n [(3, .int 0), (2, .int (nI (min n1 n2))), (0, .ref 4), (1, .ref 6)] dX3_firstDifference_13 (Nat.le_of_ble_eq_true rfl) rfl ?_
  exact lp_fd hT h1 h2 b1 b2 (Nat.min_le_left _ _) (Nat.min_le_right _ _) (min n1 n2) 0 (by omega)
def apM (M : xM) (so len n : Nat) : xM := stI (cpI M (so + 1) 3 0 len n) 2 1 (nI (len + n))
theorem sT_apM (M : xM) (so len n : Nat) : sT M (apM M so len n) := ⟨rfl, rfl, rfl⟩
theorem sp_ap4_f {d : Nat} {M : xM} {len n : Nat} (hT : TC M) (h1 : mI M 2 1 = nI len) (h2 : mI M 4 1 = nI n) (b1 : len ≤ 200) (b2 : n ≤ 1464) (hf : 200 < len + n) : Sp (fX3_append d) [.ref 2, .ref 4] M (dt (some (.int 0)) M) := by
  refine Sp.of pn_X3 (Nat.le_of_ble_eq_true rfl) (fun h => Bool.noConfusion h) ?_
  refine aw_aload_n dX3_append_0 0 rfl ?_
  refine aw_getI dX3_append_1 fl_X3_9 (hT.s 2 (by decide)) (hT.n 2 (by decide)) ?_
  refine aw_topE h1 ?_
  refine aw_aload_n dX3_append_4 1 rfl ?_
  refine aw_getI dX3_append_5 fl_X3_9 (hT.s 4 (by decide)) (hT.n 4 (by decide)) ?_
  refine aw_topE h2 ?_
  refine aw_iaddN len n dX3_append_8 rfl rfl ?_
  refine aw_aload_n dX3_append_9 0 rfl ?_
  refine aw_getR (b := 3) dX3_append_10 fl_X3_15 rfl (hT.s 2 (by decide)) (hT.n 2 (by decide)) (hT.r 2 0 (by decide) (by decide)) ?_
  refine aw_alen (n := 200) dX3_append_13 (hT.s 3 (by decide)) (hT.n 3 (by decide)) ?_
  refine aw_icmp_le 19 dX3_append_14 (by decide) (fun c1 => absurd ((E32 (by omega) (by omega)).mp c1) (by omega)) (fun c1 => ?_)
  refine aw_iconst (v := 0) dX3_append_17 (by decide) ?_
  refine aw_zret dX3_append_18 rfl rfl (Nat.zero_le _) (Nat.zero_le _) ?_
  exact ⟨rfl, rfl⟩
theorem sp_ap4_k {d : Nat} (hd : 1 ≤ d) {M : xM} {len n : Nat} (hT : TC M) (h1 : mI M 2 1 = nI len) (h2 : mI M 4 1 = nI n) (b1 : len ≤ 200) (b2 : n ≤ 1464) (hf : len + n ≤ 200) : Sp (fX3_append d) [.ref 2, .ref 4] M (dt (some (.int 1)) (apM M 4 len n)) := by
  refine Sp.of pn_X3 (Nat.le_of_ble_eq_true rfl) (fun h => Bool.noConfusion h) ?_
  refine aw_aload_n dX3_append_0 0 rfl ?_
  refine aw_getI dX3_append_1 fl_X3_9 (hT.s 2 (by decide)) (hT.n 2 (by decide)) ?_
  refine aw_topE h1 ?_
  refine aw_aload_n dX3_append_4 1 rfl ?_
  refine aw_getI dX3_append_5 fl_X3_9 (hT.s 4 (by decide)) (hT.n 4 (by decide)) ?_
  refine aw_topE h2 ?_
  refine aw_iaddN len n dX3_append_8 rfl rfl ?_
  refine aw_aload_n dX3_append_9 0 rfl ?_
  refine aw_getR (b := 3) dX3_append_10 fl_X3_15 rfl (hT.s 2 (by decide)) (hT.n 2 (by decide)) (hT.r 2 0 (by decide) (by decide)) ?_
  refine aw_alen (n := 200) dX3_append_13 (hT.s 3 (by decide)) (hT.n 3 (by decide)) ?_
  refine aw_icmp_le 19 dX3_append_14 (by decide) (fun c1 => ?_) (fun c1 => absurd ((E32 (by omega) (by omega)).mpr hf) c1)
  refine aw_aload_n dX3_append_19 1 rfl ?_
  refine aw_getR (b := 5) dX3_append_20 fl_X3_15 rfl (hT.s 4 (by decide)) (hT.n 4 (by decide)) (hT.r 4 0 (by decide) (by decide)) ?_
  refine aw_iconst (v := 0) dX3_append_23 (by decide) ?_
  refine aw_aload_n dX3_append_24 0 rfl ?_
  refine aw_getR (b := 3) dX3_append_25 fl_X3_15 rfl (hT.s 2 (by decide)) (hT.n 2 (by decide)) (hT.r 2 0 (by decide) (by decide)) ?_
  refine aw_aload_n dX3_append_28 0 rfl ?_
  refine aw_getI dX3_append_29 fl_X3_9 (hT.s 2 (by decide)) (hT.n 2 (by decide)) ?_
  refine aw_topE h1 ?_
  refine aw_aload_n dX3_append_32 1 rfl ?_
  refine aw_getI dX3_append_33 fl_X3_9 (hT.s 4 (by decide)) (hT.n 4 (by decide)) ?_
  refine aw_topE h2 ?_
  refine aw_copyI rfl dX3_append_36 ac_X3_23 ac_1 ac_2 in_J10 (hT.s 5 (by decide)) (hT.n 5 (by decide)) (hT.s 3 (by decide)) (hT.n 3 (by decide)) (by decide) (nI_nn (by omega)) (nI_nn (by omega)) (by rw [nI_clamp (by omega)]; show 0 + n ≤ 1464; omega) (by rw [nI_clamp (by omega), nI_clamp (by omega)]; omega) (show 1 ≤ d by omega) (Nat.le_of_ble_eq_true rfl) ?_
  refine aw_eqM (show cpI M 5 3 (0 : Int32).toNatClampNeg (nI len).toNatClampNeg (nI n).toNatClampNeg = cpI M 5 3 0 len n by rw [nI_clamp (by omega), nI_clamp (by omega)]; rfl) ?_
  refine aw_aload_n dX3_append_39 0 rfl ?_
  refine aw_dup dX3_append_40 rfl ?_
  refine aw_getI dX3_append_41 fl_X3_9 (((sT.cpI M 5 3 0 len n).TC hT).s 2 (by decide)) (((sT.cpI M 5 3 0 len n).TC hT).n 2 (by decide)) ?_
  refine aw_topE ((congrFun (show mI (cpI M 5 3 0 len n) 2 = mI M 2 from rfl) 1).trans h1) ?_
  refine aw_aload_n dX3_append_44 1 rfl ?_
  refine aw_getI dX3_append_45 fl_X3_9 (((sT.cpI M 5 3 0 len n).TC hT).s 4 (by decide)) (((sT.cpI M 5 3 0 len n).TC hT).n 4 (by decide)) ?_
  refine aw_topE ((congrFun (show mI (cpI M 5 3 0 len n) 4 = mI M 4 from rfl) 1).trans h2) ?_
  refine aw_iaddN len n dX3_append_48 rfl rfl ?_
  refine aw_putI dX3_append_49 fl_X3_9 (Or.inl rfl) (((sT.cpI M 5 3 0 len n).TC hT).s 2 (by decide)) (((sT.cpI M 5 3 0 len n).TC hT).n 2 (by decide)) ?_
  refine aw_iconst (v := 1) dX3_append_52 (by decide) ?_
  refine aw_zret dX3_append_53 rfl rfl (Nat.zero_le _) (Nat.zero_le _) ?_
  exact ⟨rfl, rfl⟩
theorem sp_ap6_f {d : Nat} {M : xM} {len n : Nat} (hT : TC M) (h1 : mI M 2 1 = nI len) (h2 : mI M 6 1 = nI n) (b1 : len ≤ 200) (b2 : n ≤ 1464) (hf : 200 < len + n) : Sp (fX3_append d) [.ref 2, .ref 6] M (dt (some (.int 0)) M) := by
  refine Sp.of pn_X3 (Nat.le_of_ble_eq_true rfl) (fun h => Bool.noConfusion h) ?_
  refine aw_aload_n dX3_append_0 0 rfl ?_
  refine aw_getI dX3_append_1 fl_X3_9 (hT.s 2 (by decide)) (hT.n 2 (by decide)) ?_
  refine aw_topE h1 ?_
  refine aw_aload_n dX3_append_4 1 rfl ?_
  refine aw_getI dX3_append_5 fl_X3_9 (hT.s 6 (by decide)) (hT.n 6 (by decide)) ?_
  refine aw_topE h2 ?_
  refine aw_iaddN len n dX3_append_8 rfl rfl ?_
  refine aw_aload_n dX3_append_9 0 rfl ?_
  refine aw_getR (b := 3) dX3_append_10 fl_X3_15 rfl (hT.s 2 (by decide)) (hT.n 2 (by decide)) (hT.r 2 0 (by decide) (by decide)) ?_
  refine aw_alen (n := 200) dX3_append_13 (hT.s 3 (by decide)) (hT.n 3 (by decide)) ?_
  refine aw_icmp_le 19 dX3_append_14 (by decide) (fun c1 => absurd ((E32 (by omega) (by omega)).mp c1) (by omega)) (fun c1 => ?_)
  refine aw_iconst (v := 0) dX3_append_17 (by decide) ?_
  refine aw_zret dX3_append_18 rfl rfl (Nat.zero_le _) (Nat.zero_le _) ?_
  exact ⟨rfl, rfl⟩
theorem sp_ap6_k {d : Nat} (hd : 1 ≤ d) {M : xM} {len n : Nat} (hT : TC M) (h1 : mI M 2 1 = nI len) (h2 : mI M 6 1 = nI n) (b1 : len ≤ 200) (b2 : n ≤ 1464) (hf : len + n ≤ 200) : Sp (fX3_append d) [.ref 2, .ref 6] M (dt (some (.int 1)) (apM M 6 len n)) := by
  refine Sp.of pn_X3 (Nat.le_of_ble_eq_true rfl) (fun h => Bool.noConfusion h) ?_
  refine aw_aload_n dX3_append_0 0 rfl ?_
  refine aw_getI dX3_append_1 fl_X3_9 (hT.s 2 (by decide)) (hT.n 2 (by decide)) ?_
  refine aw_topE h1 ?_
  refine aw_aload_n dX3_append_4 1 rfl ?_
  refine aw_getI dX3_append_5 fl_X3_9 (hT.s 6 (by decide)) (hT.n 6 (by decide)) ?_
  refine aw_topE h2 ?_
  refine aw_iaddN len n dX3_append_8 rfl rfl ?_
  refine aw_aload_n dX3_append_9 0 rfl ?_
  refine aw_getR (b := 3) dX3_append_10 fl_X3_15 rfl (hT.s 2 (by decide)) (hT.n 2 (by decide)) (hT.r 2 0 (by decide) (by decide)) ?_
  refine aw_alen (n := 200) dX3_append_13 (hT.s 3 (by decide)) (hT.n 3 (by decide)) ?_
  refine aw_icmp_le 19 dX3_append_14 (by decide) (fun c1 => ?_) (fun c1 => absurd ((E32 (by omega) (by omega)).mpr hf) c1)
  refine aw_aload_n dX3_append_19 1 rfl ?_
  refine aw_getR (b := 7) dX3_append_20 fl_X3_15 rfl (hT.s 6 (by decide)) (hT.n 6 (by decide)) (hT.r 6 0 (by decide) (by decide)) ?_
  refine aw_iconst (v := 0) dX3_append_23 (by decide) ?_
  refine aw_aload_n dX3_append_24 0 rfl ?_
  refine aw_getR (b := 3) dX3_append_25 fl_X3_15 rfl (hT.s 2 (by decide)) (hT.n 2 (by decide)) (hT.r 2 0 (by decide) (by decide)) ?_
  refine aw_aload_n dX3_append_28 0 rfl ?_
  refine aw_getI dX3_append_29 fl_X3_9 (hT.s 2 (by decide)) (hT.n 2 (by decide)) ?_
  refine aw_topE h1 ?_
  refine aw_aload_n dX3_append_32 1 rfl ?_
  refine aw_getI dX3_append_33 fl_X3_9 (hT.s 6 (by decide)) (hT.n 6 (by decide)) ?_
  refine aw_topE h2 ?_
  refine aw_copyI rfl dX3_append_36 ac_X3_23 ac_1 ac_2 in_J10 (hT.s 7 (by decide)) (hT.n 7 (by decide)) (hT.s 3 (by decide)) (hT.n 3 (by decide)) (by decide) (nI_nn (by omega)) (nI_nn (by omega)) (by rw [nI_clamp (by omega)]; show 0 + n ≤ 1464; omega) (by rw [nI_clamp (by omega), nI_clamp (by omega)]; omega) (show 1 ≤ d by omega) (Nat.le_of_ble_eq_true rfl) ?_
  refine aw_eqM (show cpI M 7 3 (0 : Int32).toNatClampNeg (nI len).toNatClampNeg (nI n).toNatClampNeg = cpI M 7 3 0 len n by rw [nI_clamp (by omega), nI_clamp (by omega)]; rfl) ?_
  refine aw_aload_n dX3_append_39 0 rfl ?_
  refine aw_dup dX3_append_40 rfl ?_
  refine aw_getI dX3_append_41 fl_X3_9 (((sT.cpI M 7 3 0 len n).TC hT).s 2 (by decide)) (((sT.cpI M 7 3 0 len n).TC hT).n 2 (by decide)) ?_
  refine aw_topE ((congrFun (show mI (cpI M 7 3 0 len n) 2 = mI M 2 from rfl) 1).trans h1) ?_
  refine aw_aload_n dX3_append_44 1 rfl ?_
  refine aw_getI dX3_append_45 fl_X3_9 (((sT.cpI M 7 3 0 len n).TC hT).s 6 (by decide)) (((sT.cpI M 7 3 0 len n).TC hT).n 6 (by decide)) ?_
  refine aw_topE ((congrFun (show mI (cpI M 7 3 0 len n) 6 = mI M 6 from rfl) 1).trans h2) ?_
  refine aw_iaddN len n dX3_append_48 rfl rfl ?_
  refine aw_putI dX3_append_49 fl_X3_9 (Or.inl rfl) (((sT.cpI M 7 3 0 len n).TC hT).s 2 (by decide)) (((sT.cpI M 7 3 0 len n).TC hT).n 2 (by decide)) ?_
  refine aw_iconst (v := 1) dX3_append_52 (by decide) ?_
  refine aw_zret dX3_append_53 rfl rfl (Nat.zero_le _) (Nat.zero_le _) ?_
  exact ⟨rfl, rfl⟩
theorem sp_co_f {d : Nat} {M : xM} {len n : Nat} (hT : TR M) (hl : mI M 0 6 = nI len) (hn : mI M 0 13 = nI n) (b1 : len ≤ 200) (b2 : n ≤ 1500) (hf : 200 < len + n) : Sp (fX6_comes d) [.ref 0] M (dt (some (.int (-3))) M) := by
  refine Sp.of pn_X6 (Nat.le_of_ble_eq_true rfl) (fun h => Bool.noConfusion h) ?_
  refine aw_aload_n dX6_comes_0 0 rfl ?_
  refine aw_getI dX6_comes_1 fl_X6_354 (hT.s 0 (by decide)) (hT.n 0 (by decide)) ?_
  refine aw_topE hl ?_
  refine aw_aload_n dX6_comes_4 0 rfl ?_
  refine aw_getI dX6_comes_5 fl_X6_235 (hT.s 0 (by decide)) (hT.n 0 (by decide)) ?_
  refine aw_topE hn ?_
  refine aw_iaddN len n dX6_comes_8 rfl rfl ?_
  refine aw_sipush (v := 200) dX6_comes_9 (by decide) ?_
  refine aw_icmp_leN (len + n) 200 18 dX6_comes_12 (by decide) rfl rfl (by omega) (by omega) (fun c1 => absurd c1 (by omega)) (fun c1 => ?_)
  refine aw_bipush (v := -3) dX6_comes_15 (by decide) ?_
  refine aw_iret dX6_comes_17 rfl (Nat.zero_le _) (Nat.zero_le _) ?_
  exact ⟨rfl, rfl⟩
theorem lp_co {d : Nat} {M : xM} {len n : Nat} (hT : TR M) (hl : mI M 0 6 = nI len) (hn : mI M 0 13 = nI n) (b1 : len ≤ 200) (b2 : n ≤ 1500) (hf : len + n ≤ 200) : ∀ j i, i + j = n → AW (fX6_comes d) 20 [(1, .int (nI i)), (0, .ref 0)] [] (emA M 0 6 6 len i (mI M 8)) 0 0 (dt (some (.int (nI n))) (emA M 0 6 6 len n (mI M 8))) := by
  intro j
  induction j with
  | zero =>
    intro i hi
    obtain rfl : i = n := by omega
    refine aw_iload_n dX6_comes_20 0 rfl ?_
    refine aw_aload_n dX6_comes_21 1 rfl ?_
    refine aw_getI dX6_comes_22 fl_X6_235 (((sT_emA M 0 6 6 len i (mI M 8)).TR hT).s 0 (by decide)) (((sT_emA M 0 6 6 len i (mI M 8)).TR hT).n 0 (by decide)) ?_
    refine aw_topE ((emA_a M _ (by decide) (by decide)).trans hn) ?_
    refine aw_icmp_geN i i 59 dX6_comes_25 (by decide) rfl rfl (by omega) (by omega) (fun c1 => ?_) (fun c1 => absurd (by omega) c1)
    refine aw_aload_n dX6_comes_59 1 rfl ?_
    refine aw_getI dX6_comes_60 fl_X6_235 (((sT_emA M 0 6 6 len i (mI M 8)).TR hT).s 0 (by decide)) (((sT_emA M 0 6 6 len i (mI M 8)).TR hT).n 0 (by decide)) ?_
    refine aw_topE ((emA_a M _ (by decide) (by decide)).trans hn) ?_
    refine aw_iret dX6_comes_63 rfl (Nat.zero_le _) (Nat.zero_le _) ?_
    exact ⟨rfl, rfl⟩
  | succ j ih =>
    intro i hi
    have g := ih (i + 1) (by omega)
    rw [← emA_s M (mI M 8) (x := mI M 8 i) rfl (by decide)] at g
    refine aw_iload_n dX6_comes_20 0 rfl ?_
    refine aw_aload_n dX6_comes_21 1 rfl ?_
    refine aw_getI dX6_comes_22 fl_X6_235 (((sT_emA M 0 6 6 len i (mI M 8)).TR hT).s 0 (by decide)) (((sT_emA M 0 6 6 len i (mI M 8)).TR hT).n 0 (by decide)) ?_
    refine aw_topE ((emA_a M _ (by decide) (by decide)).trans hn) ?_
    refine aw_icmp_geN i n 59 dX6_comes_25 (by decide) rfl rfl (by omega) (by omega) (fun c1 => absurd c1 (by omega)) (fun c1 => ?_)
    refine aw_aload_n dX6_comes_28 1 rfl ?_
    refine aw_getR (b := 6) dX6_comes_29 fl_X6_26 rfl (((sT_emA M 0 6 6 len i (mI M 8)).TR hT).s 0 (by decide)) (((sT_emA M 0 6 6 len i (mI M 8)).TR hT).n 0 (by decide)) (((sT_emA M 0 6 6 len i (mI M 8)).TR hT).r 5) ?_
    refine aw_aload_n dX6_comes_32 1 rfl ?_
    refine aw_getI dX6_comes_33 fl_X6_354 (((sT_emA M 0 6 6 len i (mI M 8)).TR hT).s 0 (by decide)) (((sT_emA M 0 6 6 len i (mI M 8)).TR hT).n 0 (by decide)) ?_
    refine aw_topE (emA_f M _ _ _ _ _ _) ?_
    refine aw_aload_n dX6_comes_36 1 rfl ?_
    refine aw_getR (b := 8) dX6_comes_37 fl_X6_36 rfl (((sT_emA M 0 6 6 len i (mI M 8)).TR hT).s 0 (by decide)) (((sT_emA M 0 6 6 len i (mI M 8)).TR hT).n 0 (by decide)) (((sT_emA M 0 6 6 len i (mI M 8)).TR hT).r 12) ?_
    refine aw_iload_n dX6_comes_40 0 rfl ?_
    refine aw_ialdN i dX6_comes_41 (((sT_emA M 0 6 6 len i (mI M 8)).TR hT).s 8 (by decide)) (((sT_emA M 0 6 6 len i (mI M 8)).TR hT).n 8 (by decide)) rfl (by omega) (by first | decide | omega) ?_
    refine aw_topE (congrFun (emA_I M _ (by decide) (by decide)) i) ?_
    refine aw_iastN (len + i) dX6_comes_42 (((sT_emA M 0 6 6 len i (mI M 8)).TR hT).s 6 (by decide)) (((sT_emA M 0 6 6 len i (mI M 8)).TR hT).n 6 (by decide)) rfl (by omega) (by first | decide | omega) ?_
    refine aw_aload_n dX6_comes_43 1 rfl ?_
    refine aw_dup dX6_comes_44 rfl ?_
    refine aw_getI dX6_comes_45 fl_X6_354 (((sT_emA M 0 6 6 len i (mI M 8)).TR hT).s 0 (by decide)) (((sT_emA M 0 6 6 len i (mI M 8)).TR hT).n 0 (by decide)) ?_
    refine aw_topE ((congrFun (mI_stI_c _ _ _ (by decide)) 6).trans (emA_f M _ _ _ _ _ _)) ?_
    refine aw_iconst (v := 1) dX6_comes_48 (by decide) ?_
    refine aw_iaddN (len + i) 1 dX6_comes_49 rfl rfl ?_
    refine aw_putI dX6_comes_50 fl_X6_354 (Or.inl rfl) (((sT_emA M 0 6 6 len i (mI M 8)).TR hT).s 0 (by decide)) (((sT_emA M 0 6 6 len i (mI M 8)).TR hT).n 0 (by decide)) ?_
    refine aw_iincN i 1 [(1, .int (nI (i + 1))), (0, .ref 0)] dX6_comes_53 0 rfl rfl rfl (Nat.le_of_ble_eq_true rfl) rfl ?_
    refine aw_goto 20 dX6_comes_56 (by decide) ?_
    exact g
theorem sp_co_k {d : Nat} {M : xM} {len n : Nat} (hT : TR M) (hl : mI M 0 6 = nI len) (hn : mI M 0 13 = nI n) (b1 : len ≤ 200) (b2 : n ≤ 1500) (hf : len + n ≤ 200) : Sp (fX6_comes d) [.ref 0] M (dt (some (.int (nI n))) (emA M 0 6 6 len n (mI M 8))) := by
  refine Sp.of pn_X6 (Nat.le_of_ble_eq_true rfl) (fun h => Bool.noConfusion h) ?_
  have g := lp_co (d := d) hT hl hn b1 b2 hf n 0 (by omega)
  rw [emA_0 (mI M 8) hl] at g
  refine aw_aload_n dX6_comes_0 0 rfl ?_
  refine aw_getI dX6_comes_1 fl_X6_354 (hT.s 0 (by decide)) (hT.n 0 (by decide)) ?_
  refine aw_topE hl ?_
  refine aw_aload_n dX6_comes_4 0 rfl ?_
  refine aw_getI dX6_comes_5 fl_X6_235 (hT.s 0 (by decide)) (hT.n 0 (by decide)) ?_
  refine aw_topE hn ?_
  refine aw_iaddN len n dX6_comes_8 rfl rfl ?_
  refine aw_sipush (v := 200) dX6_comes_9 (by decide) ?_
  refine aw_icmp_leN (len + n) 200 18 dX6_comes_12 (by decide) rfl rfl (by omega) (by omega) (fun c1 => ?_) (fun c1 => absurd (by omega) c1)
  refine aw_iconst (v := 0) dX6_comes_18 (by decide) ?_
  refine aw_istore_n [(1, .int 0), (0, .ref 0)] dX6_comes_19 (Nat.le_of_ble_eq_true rfl) rfl ?_
  exact g
def hoM (M : xM) (n : Nat) : xM := flI (stI M 0 15 (nI n)) 9 0 n (mI M 8)
theorem sT_hoM (M : xM) (n : Nat) : sT M (hoM M n) := ⟨rfl, rfl, rfl⟩
theorem hoM_L (M : xM) (n : Nat) : mL (hoM M n) = mL M := rfl
theorem hoM_I (M : xM) {x : Nat} (n : Nat) (h1 : x ≠ 0) (h2 : x ≠ 9) : mI (hoM M n) x = mI M x := by
  unfold hoM
  rw [mI_flI_ne _ h2, mI_stI_c _ _ _ h1]
theorem hoM_0 (M : xM) {k : Nat} (n : Nat) (h : k ≠ 15) : mI (hoM M n) 0 k = mI M 0 k := by
  unfold hoM
  rw [mI_flI_ne _ (by decide), mI_stI_o _ _ _ _ h]
theorem hoM_f (M : xM) (n : Nat) : mI (hoM M n) 0 15 = nI n := by
  unfold hoM
  rw [mI_flI_ne _ (by decide)]
  exact mI_stI_v _ _ _ _
theorem hoM_9 (M : xM) {n i : Nat} (h : i < n) : mI (hoM M n) 9 i = mI M 8 i := by
  have := mI_flI_at (stI M 0 15 (nI n)) (a := 9) (lo := 0) (g := mI M 8) h
  rw [Nat.zero_add] at this
  exact this
theorem lp_ho {d : Nat} {M : xM} {n : Nat} (hT : TR M) (hn : mI M 0 13 = nI n) (b2 : n ≤ 1500) : ∀ j i, i + j = n → AW (fX6_holds d) 10 [(1, .int (nI i)), (0, .ref 0)] [] (flI (stI M 0 15 (nI n)) 9 0 i (mI M 8)) 0 0 (dt none (hoM M n)) := by
  intro j
  induction j with
  | zero =>
    intro i hi
    obtain rfl : i = n := by omega
    refine aw_iload_n dX6_holds_10 0 rfl ?_
    refine aw_aload_n dX6_holds_11 1 rfl ?_
    refine aw_getI dX6_holds_12 fl_X6_235 (((show sT M (flI (stI M 0 15 (nI i)) 9 0 i (mI M 8)) from ⟨rfl, rfl, rfl⟩).TR hT).s 0 (by decide)) (((show sT M (flI (stI M 0 15 (nI i)) 9 0 i (mI M 8)) from ⟨rfl, rfl, rfl⟩).TR hT).n 0 (by decide)) ?_
    refine aw_topE (show mI (flI (stI M 0 15 (nI i)) 9 0 i (mI M 8)) 0 13 = nI i by rw [mI_flI_ne _ (by decide), mI_stI_o _ _ _ _ (by decide)]; exact hn) ?_
    refine aw_icmp_geN i i 36 dX6_holds_15 (by decide) rfl rfl (by omega) (by omega) (fun c1 => ?_) (fun c1 => absurd (by omega) c1)
    refine aw_ret dX6_holds_36 rfl (Nat.zero_le _) (Nat.zero_le _) ?_
    exact ⟨rfl, rfl⟩
  | succ j ih =>
    intro i hi
    have g := ih (i + 1) (by omega)
    rw [← flI_s (stI M 0 15 (nI n)) 9 0 i (mI M 8) (v := mI M 8 i) rfl, Nat.zero_add] at g
    refine aw_iload_n dX6_holds_10 0 rfl ?_
    refine aw_aload_n dX6_holds_11 1 rfl ?_
    refine aw_getI dX6_holds_12 fl_X6_235 (((show sT M (flI (stI M 0 15 (nI n)) 9 0 i (mI M 8)) from ⟨rfl, rfl, rfl⟩).TR hT).s 0 (by decide)) (((show sT M (flI (stI M 0 15 (nI n)) 9 0 i (mI M 8)) from ⟨rfl, rfl, rfl⟩).TR hT).n 0 (by decide)) ?_
    refine aw_topE (show mI (flI (stI M 0 15 (nI n)) 9 0 i (mI M 8)) 0 13 = nI n by rw [mI_flI_ne _ (by decide), mI_stI_o _ _ _ _ (by decide)]; exact hn) ?_
    refine aw_icmp_geN i n 36 dX6_holds_15 (by decide) rfl rfl (by omega) (by omega) (fun c1 => absurd c1 (by omega)) (fun c1 => ?_)
    refine aw_aload_n dX6_holds_18 1 rfl ?_
    refine aw_getR (b := 9) dX6_holds_19 fl_X6_39 rfl (((show sT M (flI (stI M 0 15 (nI n)) 9 0 i (mI M 8)) from ⟨rfl, rfl, rfl⟩).TR hT).s 0 (by decide)) (((show sT M (flI (stI M 0 15 (nI n)) 9 0 i (mI M 8)) from ⟨rfl, rfl, rfl⟩).TR hT).n 0 (by decide)) (((show sT M (flI (stI M 0 15 (nI n)) 9 0 i (mI M 8)) from ⟨rfl, rfl, rfl⟩).TR hT).r 14) ?_
    refine aw_iload_n dX6_holds_22 0 rfl ?_
    refine aw_aload_n dX6_holds_23 1 rfl ?_
    refine aw_getR (b := 8) dX6_holds_24 fl_X6_36 rfl (((show sT M (flI (stI M 0 15 (nI n)) 9 0 i (mI M 8)) from ⟨rfl, rfl, rfl⟩).TR hT).s 0 (by decide)) (((show sT M (flI (stI M 0 15 (nI n)) 9 0 i (mI M 8)) from ⟨rfl, rfl, rfl⟩).TR hT).n 0 (by decide)) (((show sT M (flI (stI M 0 15 (nI n)) 9 0 i (mI M 8)) from ⟨rfl, rfl, rfl⟩).TR hT).r 12) ?_
    refine aw_iload_n dX6_holds_27 0 rfl ?_
    refine aw_ialdN i dX6_holds_28 (((show sT M (flI (stI M 0 15 (nI n)) 9 0 i (mI M 8)) from ⟨rfl, rfl, rfl⟩).TR hT).s 8 (by decide)) (((show sT M (flI (stI M 0 15 (nI n)) 9 0 i (mI M 8)) from ⟨rfl, rfl, rfl⟩).TR hT).n 8 (by decide)) rfl (by omega) (by first | decide | omega) ?_
    refine aw_topE (congrFun (show mI (flI (stI M 0 15 (nI n)) 9 0 i (mI M 8)) 8 = mI M 8 by rw [mI_flI_ne _ (by decide), mI_stI_c _ _ _ (by decide)]) i) ?_
    refine aw_iastN i dX6_holds_29 (((show sT M (flI (stI M 0 15 (nI n)) 9 0 i (mI M 8)) from ⟨rfl, rfl, rfl⟩).TR hT).s 9 (by decide)) (((show sT M (flI (stI M 0 15 (nI n)) 9 0 i (mI M 8)) from ⟨rfl, rfl, rfl⟩).TR hT).n 9 (by decide)) rfl (by omega) (by first | decide | omega) ?_
    refine aw_iincN i 1 [(1, .int (nI (i + 1))), (0, .ref 0)] dX6_holds_30 0 rfl rfl rfl (Nat.le_of_ble_eq_true rfl) rfl ?_
    refine aw_goto 10 dX6_holds_33 (by decide) ?_
    exact g
theorem sp_ho {d : Nat} {M : xM} {n : Nat} (hT : TR M) (hn : mI M 0 13 = nI n) (b2 : n ≤ 1500) : Sp (fX6_holds d) [.ref 0] M (dt none (hoM M n)) := by
  refine Sp.of pn_X6 (Nat.le_of_ble_eq_true rfl) (fun h => Bool.noConfusion h) ?_
  have g := lp_ho (d := d) hT hn b2 n 0 (by omega)
  rw [flI_0] at g
  refine aw_aload_n dX6_holds_0 0 rfl ?_
  refine aw_aload_n dX6_holds_1 0 rfl ?_
  refine aw_getI dX6_holds_2 fl_X6_235 (hT.s 0 (by decide)) (hT.n 0 (by decide)) ?_
  refine aw_topE hn ?_
  refine aw_putI dX6_holds_5 fl_X6_280 (Or.inl rfl) (hT.s 0 (by decide)) (hT.n 0 (by decide)) ?_
  refine aw_iconst (v := 0) dX6_holds_8 (by decide) ?_
  refine aw_istore_n [(1, .int 0), (0, .ref 0)] dX6_holds_9 (Nat.le_of_ble_eq_true rfl) rfl ?_
  exact g
theorem lp_un {d : Nat} {M : xM} {n1 n2 mn : Nat} (hT : TR M) (h1 : mI M 0 13 = nI n1) (h2 : mI M 0 15 = nI n2) (b1 : n1 ≤ 1500) (b2 : n2 ≤ 1500) (hm1 : mn ≤ n1) (hm2 : mn ≤ n2) : ∀ n i, i + n = mn → AW (fX6_unlike d) 25 [(2, .int (nI i)), (1, .int (nI mn)), (0, .ref 0)] [] M 0 0 (dt (some (.int (fdR (-1) (mI M 8) (mI M 9) n i mn (n1 = n2)))) M) := by
  intro n
  induction n with
  | zero =>
    intro i hi
    rw [show fdR (-1) (mI M 8) (mI M 9) 0 i mn (n1 = n2) = (if n1 = n2 then -1 else nI mn) from if_neg (show ¬ i < mn by omega)]
    refine aw_iload_n dX6_unlike_25 0 rfl ?_
    refine aw_iload_n dX6_unlike_26 1 rfl ?_
    refine aw_icmp_geN i mn 53 dX6_unlike_27 (by decide) rfl rfl (by omega) (by omega) (fun c1 => ?_) (fun c1 => absurd (by omega) c1)
    refine aw_aload_n dX6_unlike_53 2 rfl ?_
    refine aw_getI dX6_unlike_54 fl_X6_235 (hT.s 0 (by decide)) (hT.n 0 (by decide)) ?_
    refine aw_topE h1 ?_
    refine aw_aload_n dX6_unlike_57 2 rfl ?_
    refine aw_getI dX6_unlike_58 fl_X6_280 (hT.s 0 (by decide)) (hT.n 0 (by decide)) ?_
    refine aw_topE h2 ?_
    refine aw_icmp_neN n1 n2 68 dX6_unlike_61 (by decide) rfl rfl (by omega) (by omega) (fun c2 => ?_) (fun c2 => ?_)
    · refine aw_iload_n dX6_unlike_68 1 rfl ?_
      refine aw_iret dX6_unlike_69 rfl (Nat.zero_le _) (Nat.zero_le _) ?_
      exact ⟨congrArg (fun z => some (Value.int z)) (if_neg c2).symm, rfl⟩
    · refine aw_iconst (v := -1) dX6_unlike_64 (by decide) ?_
      refine aw_goto 69 dX6_unlike_65 (by decide) ?_
      refine aw_iret dX6_unlike_69 rfl (Nat.zero_le _) (Nat.zero_le _) ?_
      exact ⟨congrArg (fun z => some (Value.int z)) (if_pos c2).symm, rfl⟩
  | succ n ih =>
    intro i hi
    by_cases c : mI M 8 i = mI M 9 i
    · have g := ih (i + 1) (by omega)
      have e : fdN (mI M 8) (mI M 9) (n + 1) i = fdN (mI M 8) (mI M 9) n (i + 1) := if_pos c
      unfold fdR at g ⊢
      rw [e]
      refine aw_iload_n dX6_unlike_25 0 rfl ?_
      refine aw_iload_n dX6_unlike_26 1 rfl ?_
      refine aw_icmp_geN i mn 53 dX6_unlike_27 (by decide) rfl rfl (by omega) (by omega) (fun c1 => absurd c1 (by omega)) (fun c1 => ?_)
      refine aw_aload_n dX6_unlike_30 2 rfl ?_
      refine aw_getR (b := 8) dX6_unlike_31 fl_X6_36 rfl (hT.s 0 (by decide)) (hT.n 0 (by decide)) (hT.r 12) ?_
      refine aw_iload_n dX6_unlike_34 0 rfl ?_
      refine aw_ialdN i dX6_unlike_35 (hT.s 8 (by decide)) (hT.n 8 (by decide)) rfl (by omega) (by first | decide | omega) ?_
      refine aw_aload_n dX6_unlike_36 2 rfl ?_
      refine aw_getR (b := 9) dX6_unlike_37 fl_X6_39 rfl (hT.s 0 (by decide)) (hT.n 0 (by decide)) (hT.r 14) ?_
      refine aw_iload_n dX6_unlike_40 0 rfl ?_
      refine aw_ialdN i dX6_unlike_41 (hT.s 9 (by decide)) (hT.n 9 (by decide)) rfl (by omega) (by first | decide | omega) ?_
      refine aw_icmp_eq 47 dX6_unlike_42 (by decide) (fun c2 => ?_) (fun c2 => absurd c c2)
      refine aw_iincN i 1 [(2, .int (nI (i + 1))), (1, .int (nI mn)), (0, .ref 0)] dX6_unlike_47 0 rfl rfl rfl (Nat.le_of_ble_eq_true rfl) rfl ?_
      refine aw_goto 25 dX6_unlike_50 (by decide) ?_
      exact g
    · have e : fdN (mI M 8) (mI M 9) (n + 1) i = i := if_neg c
      unfold fdR
      rw [e, if_pos (by omega)]
      refine aw_iload_n dX6_unlike_25 0 rfl ?_
      refine aw_iload_n dX6_unlike_26 1 rfl ?_
      refine aw_icmp_geN i mn 53 dX6_unlike_27 (by decide) rfl rfl (by omega) (by omega) (fun c1 => absurd c1 (by omega)) (fun c1 => ?_)
      refine aw_aload_n dX6_unlike_30 2 rfl ?_
      refine aw_getR (b := 8) dX6_unlike_31 fl_X6_36 rfl (hT.s 0 (by decide)) (hT.n 0 (by decide)) (hT.r 12) ?_
      refine aw_iload_n dX6_unlike_34 0 rfl ?_
      refine aw_ialdN i dX6_unlike_35 (hT.s 8 (by decide)) (hT.n 8 (by decide)) rfl (by omega) (by first | decide | omega) ?_
      refine aw_aload_n dX6_unlike_36 2 rfl ?_
      refine aw_getR (b := 9) dX6_unlike_37 fl_X6_39 rfl (hT.s 0 (by decide)) (hT.n 0 (by decide)) (hT.r 14) ?_
      refine aw_iload_n dX6_unlike_40 0 rfl ?_
      refine aw_ialdN i dX6_unlike_41 (hT.s 9 (by decide)) (hT.n 9 (by decide)) rfl (by omega) (by first | decide | omega) ?_
      refine aw_icmp_eq 47 dX6_unlike_42 (by decide) (fun c2 => absurd c2 c) (fun c2 => ?_)
      refine aw_iload_n dX6_unlike_45 0 rfl ?_
      refine aw_iret dX6_unlike_46 rfl (Nat.zero_le _) (Nat.zero_le _) ?_
      exact ⟨rfl, rfl⟩
theorem sp_un {d : Nat} {M : xM} {n1 n2 : Nat} (hT : TR M) (h1 : mI M 0 13 = nI n1) (h2 : mI M 0 15 = nI n2) (b1 : n1 ≤ 1500) (b2 : n2 ≤ 1500) : Sp (fX6_unlike d) [.ref 0] M (dt (some (.int (fdR (-1) (mI M 8) (mI M 9) (min n1 n2) 0 (min n1 n2) (n1 = n2)))) M) := by
  refine Sp.of pn_X6 (Nat.le_of_ble_eq_true rfl) (fun h => Bool.noConfusion h) ?_
  by_cases c : n2 ≤ n1
  · rw [Nat.min_eq_right c]
    refine aw_aload_n dX6_unlike_0 0 rfl ?_
    refine aw_getI dX6_unlike_1 fl_X6_235 (hT.s 0 (by decide)) (hT.n 0 (by decide)) ?_
    refine aw_topE h1 ?_
    refine aw_aload_n dX6_unlike_4 0 rfl ?_
    refine aw_getI dX6_unlike_5 fl_X6_280 (hT.s 0 (by decide)) (hT.n 0 (by decide)) ?_
    refine aw_topE h2 ?_
    refine aw_icmp_geN n1 n2 18 dX6_unlike_8 (by decide) rfl rfl (by omega) (by omega) (fun c1 => ?_) (fun c1 => absurd c c1)
    refine aw_aload_n dX6_unlike_18 0 rfl ?_
    refine aw_getI dX6_unlike_19 fl_X6_280 (hT.s 0 (by decide)) (hT.n 0 (by decide)) ?_
    refine aw_topE h2 ?_
    refine aw_istore_n [(1, .int (nI n2)), (0, .ref 0)] dX6_unlike_22 (Nat.le_of_ble_eq_true rfl) rfl ?_
    refine aw_iconst (v := 0) dX6_unlike_23 (by decide) ?_
    refine aw_istore_n [(2, .int 0), (1, .int (nI n2)), (0, .ref 0)] dX6_unlike_24 (Nat.le_of_ble_eq_true rfl) rfl ?_
    exact lp_un hT h1 h2 b1 b2 c (Nat.le_refl _) n2 0 (by omega)
  · rw [Nat.min_eq_left (by omega)]
    refine aw_aload_n dX6_unlike_0 0 rfl ?_
    refine aw_getI dX6_unlike_1 fl_X6_235 (hT.s 0 (by decide)) (hT.n 0 (by decide)) ?_
    refine aw_topE h1 ?_
    refine aw_aload_n dX6_unlike_4 0 rfl ?_
    refine aw_getI dX6_unlike_5 fl_X6_280 (hT.s 0 (by decide)) (hT.n 0 (by decide)) ?_
    refine aw_topE h2 ?_
    refine aw_icmp_geN n1 n2 18 dX6_unlike_8 (by decide) rfl rfl (by omega) (by omega) (fun c1 => absurd c1 c) (fun c1 => ?_)
    refine aw_aload_n dX6_unlike_11 0 rfl ?_
    refine aw_getI dX6_unlike_12 fl_X6_235 (hT.s 0 (by decide)) (hT.n 0 (by decide)) ?_
    refine aw_topE h1 ?_
    refine aw_goto 22 dX6_unlike_15 (by decide) ?_
    refine aw_istore_n [(1, .int (nI n1)), (0, .ref 0)] dX6_unlike_22 (Nat.le_of_ble_eq_true rfl) rfl ?_
    refine aw_iconst (v := 0) dX6_unlike_23 (by decide) ?_
    refine aw_istore_n [(2, .int 0), (1, .int (nI n1)), (0, .ref 0)] dX6_unlike_24 (Nat.le_of_ble_eq_true rfl) rfl ?_
    exact lp_un hT h1 h2 b1 b2 (Nat.le_refl _) (by omega) n1 0 (by omega)
