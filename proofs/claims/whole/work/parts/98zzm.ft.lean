-- THE REFERENCE TAKES THE TAPE; SKIP BY OUTCOME
def ftM (M : xM) (n : Nat) : xM := flI (stI M 0 23 (nI n)) 14 0 n (mI M 6)
theorem sT_ftM (M : xM) (n : Nat) : sT M (ftM M n) := ⟨rfl, rfl, rfl⟩
theorem ftM_L (M : xM) (n : Nat) : mL (ftM M n) = mL M := rfl
theorem ftM_I (M : xM) {x : Nat} (n : Nat) (h1 : x ≠ 0) (h2 : x ≠ 14) : mI (ftM M n) x = mI M x := by
  unfold ftM
  rw [mI_flI_ne _ h2, mI_stI_c _ _ _ h1]
theorem ftM_0 (M : xM) {k : Nat} (n : Nat) (h : k ≠ 23) : mI (ftM M n) 0 k = mI M 0 k := by
  unfold ftM
  rw [mI_flI_ne _ (by decide), mI_stI_o _ _ _ _ h]
theorem ftM_f (M : xM) (n : Nat) : mI (ftM M n) 0 23 = nI n := by
  unfold ftM
  rw [mI_flI_ne _ (by decide)]
  exact mI_stI_v _ _ _ _
theorem ftM_14 (M : xM) {n i : Nat} (h : i < n) : mI (ftM M n) 14 i = mI M 6 i := by
  have := mI_flI_at (stI M 0 23 (nI n)) (a := 14) (lo := 0) (g := mI M 6) h
  rw [Nat.zero_add] at this
  exact this
theorem lp_ft {d : Nat} {M : xM} {n : Nat} (hT : TR M) (hn : mI M 0 6 = nI n) (b2 : n ≤ 200) : ∀ j i, i + j = n → AW (fX6_fromTape d) 10 [(1, .int (nI i)), (0, .ref 0)] [] (flI (stI M 0 23 (nI n)) 14 0 i (mI M 6)) 0 0 (dt none (ftM M n)) := by
  intro j
  induction j with
  | zero =>
    intro i hi
    obtain rfl : i = n := by omega
    refine aw_iload_n dX6_fromTape_10 0 rfl ?_
    refine aw_aload_n dX6_fromTape_11 1 rfl ?_
    refine aw_getI dX6_fromTape_12 fl_X6_354 (((show sT M (flI (stI M 0 23 (nI i)) 14 0 i (mI M 6)) from ⟨rfl, rfl, rfl⟩).TR hT).s 0 (by decide)) (((show sT M (flI (stI M 0 23 (nI i)) 14 0 i (mI M 6)) from ⟨rfl, rfl, rfl⟩).TR hT).n 0 (by decide)) ?_
    refine aw_topE (show mI (flI (stI M 0 23 (nI i)) 14 0 i (mI M 6)) 0 6 = nI i by rw [mI_flI_ne _ (by decide), mI_stI_o _ _ _ _ (by decide)]; exact hn) ?_
    refine aw_icmp_geN i i 36 dX6_fromTape_15 (by decide) rfl rfl (by omega) (by omega) (fun c1 => ?_) (fun c1 => absurd (by omega) c1)
    refine aw_ret dX6_fromTape_36 rfl (Nat.zero_le _) (Nat.zero_le _) ?_
    exact ⟨rfl, rfl⟩
  | succ j ih =>
    intro i hi
    have g := ih (i + 1) (by omega)
    rw [← flI_s (stI M 0 23 (nI n)) 14 0 i (mI M 6) (v := mI M 6 i) rfl, Nat.zero_add] at g
    refine aw_iload_n dX6_fromTape_10 0 rfl ?_
    refine aw_aload_n dX6_fromTape_11 1 rfl ?_
    refine aw_getI dX6_fromTape_12 fl_X6_354 (((show sT M (flI (stI M 0 23 (nI n)) 14 0 i (mI M 6)) from ⟨rfl, rfl, rfl⟩).TR hT).s 0 (by decide)) (((show sT M (flI (stI M 0 23 (nI n)) 14 0 i (mI M 6)) from ⟨rfl, rfl, rfl⟩).TR hT).n 0 (by decide)) ?_
    refine aw_topE (show mI (flI (stI M 0 23 (nI n)) 14 0 i (mI M 6)) 0 6 = nI n by rw [mI_flI_ne _ (by decide), mI_stI_o _ _ _ _ (by decide)]; exact hn) ?_
    refine aw_icmp_geN i n 36 dX6_fromTape_15 (by decide) rfl rfl (by omega) (by omega) (fun c1 => absurd c1 (by omega)) (fun c1 => ?_)
    refine aw_aload_n dX6_fromTape_18 1 rfl ?_
    refine aw_getR (b := 14) dX6_fromTape_19 fl_X6_54 rfl (((show sT M (flI (stI M 0 23 (nI n)) 14 0 i (mI M 6)) from ⟨rfl, rfl, rfl⟩).TR hT).s 0 (by decide)) (((show sT M (flI (stI M 0 23 (nI n)) 14 0 i (mI M 6)) from ⟨rfl, rfl, rfl⟩).TR hT).n 0 (by decide)) (((show sT M (flI (stI M 0 23 (nI n)) 14 0 i (mI M 6)) from ⟨rfl, rfl, rfl⟩).TR hT).r 22) ?_
    refine aw_iload_n dX6_fromTape_22 0 rfl ?_
    refine aw_aload_n dX6_fromTape_23 1 rfl ?_
    refine aw_getR (b := 6) dX6_fromTape_24 fl_X6_26 rfl (((show sT M (flI (stI M 0 23 (nI n)) 14 0 i (mI M 6)) from ⟨rfl, rfl, rfl⟩).TR hT).s 0 (by decide)) (((show sT M (flI (stI M 0 23 (nI n)) 14 0 i (mI M 6)) from ⟨rfl, rfl, rfl⟩).TR hT).n 0 (by decide)) (((show sT M (flI (stI M 0 23 (nI n)) 14 0 i (mI M 6)) from ⟨rfl, rfl, rfl⟩).TR hT).r 5) ?_
    refine aw_iload_n dX6_fromTape_27 0 rfl ?_
    refine aw_ialdN i dX6_fromTape_28 (((show sT M (flI (stI M 0 23 (nI n)) 14 0 i (mI M 6)) from ⟨rfl, rfl, rfl⟩).TR hT).s 6 (by decide)) (((show sT M (flI (stI M 0 23 (nI n)) 14 0 i (mI M 6)) from ⟨rfl, rfl, rfl⟩).TR hT).n 6 (by decide)) rfl (by omega) (by first | decide | omega) ?_
    refine aw_topE (congrFun (show mI (flI (stI M 0 23 (nI n)) 14 0 i (mI M 6)) 6 = mI M 6 by rw [mI_flI_ne _ (by decide), mI_stI_c _ _ _ (by decide)]) i) ?_
    refine aw_iastN i dX6_fromTape_29 (((show sT M (flI (stI M 0 23 (nI n)) 14 0 i (mI M 6)) from ⟨rfl, rfl, rfl⟩).TR hT).s 14 (by decide)) (((show sT M (flI (stI M 0 23 (nI n)) 14 0 i (mI M 6)) from ⟨rfl, rfl, rfl⟩).TR hT).n 14 (by decide)) rfl (by omega) (by first | decide | omega) ?_
    refine aw_iincN i 1 [(1, .int (nI (i + 1))), (0, .ref 0)] dX6_fromTape_30 0 rfl rfl rfl (Nat.le_of_ble_eq_true rfl) rfl ?_
    refine aw_goto 10 dX6_fromTape_33 (by decide) ?_
    exact g
theorem sp_ft {d : Nat} {M : xM} {n : Nat} (hT : TR M) (hn : mI M 0 6 = nI n) (b2 : n ≤ 200) : Sp (fX6_fromTape d) [.ref 0] M (dt none (ftM M n)) := by
  refine Sp.of pn_X6 (Nat.le_of_ble_eq_true rfl) (fun h => Bool.noConfusion h) ?_
  have g := lp_ft (d := d) hT hn b2 n 0 (by omega)
  rw [flI_0] at g
  refine aw_aload_n dX6_fromTape_0 0 rfl ?_
  refine aw_aload_n dX6_fromTape_1 0 rfl ?_
  refine aw_getI dX6_fromTape_2 fl_X6_354 (hT.s 0 (by decide)) (hT.n 0 (by decide)) ?_
  refine aw_topE hn ?_
  refine aw_putI dX6_fromTape_5 fl_X6_286 (Or.inl rfl) (hT.s 0 (by decide)) (hT.n 0 (by decide)) ?_
  refine aw_iconst (v := 0) dX6_fromTape_8 (by decide) ?_
  refine aw_istore_n [(1, .int 0), (0, .ref 0)] dX6_fromTape_9 (Nat.le_of_ble_eq_true rfl) rfl ?_
  exact g
theorem sp_X5_skip_f {d : Nat} (hd : 60 ≤ d) {M : xM} {P : xM → Prop} {p f : Nat} (hT : TC M) (hp : mI M 0 10 = nI p) (hti : Sp (fX1_takeItem (d - 1)) [.ref 8, .ref 2, .int (nI p)] M (fun r A => r = some (.int 0) ∧ P A)) (hP : ∀ A, P A → TC A ∧ mI A 8 3 = nI f) : Sp (fX5_skip d) [.ref 0] M (fun r B => r = some (.int (-10)) ∧ ∃ A, P A ∧ B = tX5_report A (-10) (nI f)) := by
  refine Sp.of pn_X5 (Nat.le_of_ble_eq_true rfl) (fun h => Bool.noConfusion h) ?_
  refine aw_aload_n dX5_skip_0 0 rfl ?_
  refine aw_getR (b := 8) dX5_skip_1 fl_X5_35 rfl (hT.s 0 (by decide)) (hT.n 0 (by decide)) (hT.r 0 4 (by decide) (by decide)) ?_
  refine aw_aload_n dX5_skip_4 0 rfl ?_
  refine aw_getR (b := 2) dX5_skip_5 fl_X5_20 rfl (hT.s 0 (by decide)) (hT.n 0 (by decide)) (hT.r 0 1 (by decide) (by decide)) ?_
  refine aw_aload_n dX5_skip_8 0 rfl ?_
  refine aw_getI dX5_skip_9 fl_X5_64 (hT.s 0 (by decide)) (hT.n 0 (by decide)) ?_
  refine aw_topE hp ?_
  refine aw_callVx [.ref 2, .int (nI p)] [] hti dX5_skip_12 ml_X5_238 im_X1_takeItem (hT.s 8 (by decide)) (hT.n 8 (by decide)) rfl rfl (dl1 (d := d) (by omega)) rfl rfl (Nat.le_of_ble_eq_true rfl) rfl rfl (Nat.zero_le _) (Nat.zero_le _) (fun r A1 hA => ?_)
  obtain ⟨rfl, hA⟩ := hA
  refine aw_cons ?_
  refine aw_if_ne 32 dX5_skip_15 (by decide) (fun c1 => absurd rfl c1) (fun c1 => ?_)
  refine aw_aload_n dX5_skip_18 0 rfl ?_
  refine aw_bipush (v := -10) dX5_skip_19 (by decide) ?_
  refine aw_aload_n dX5_skip_21 0 rfl ?_
  refine aw_getR (b := 8) dX5_skip_22 fl_X5_35 rfl ((hP A1 hA).1.s 0 (by decide)) ((hP A1 hA).1.n 0 (by decide)) ((hP A1 hA).1.r 0 4 (by decide) (by decide)) ?_
  refine aw_getI dX5_skip_25 fl_X5_242 ((hP A1 hA).1.s 8 (by decide)) ((hP A1 hA).1.n 8 (by decide)) ?_
  refine aw_topE (hP A1 hA).2 ?_
  refine aw_callVi [.int (-10), .int (nI f)] [] (sp_X5_report (d := d - 1) (by omega) (-10) (nI f) (hP A1 hA).1) dX5_skip_28 ml_X5_138 im_X5_report ((hP A1 hA).1.s 0 (by decide)) ((hP A1 hA).1.n 0 (by decide)) rfl rfl (dl1 (d := d) (by omega)) rfl rfl (Nat.le_of_ble_eq_true rfl) rfl rfl (Nat.zero_le _) (Nat.zero_le _) ?_
  refine aw_iret dX5_skip_31 rfl (Nat.zero_le _) (Nat.zero_le _) ?_
  exact ⟨rfl, A1, hA, rfl⟩
theorem sp_X5_skip_k {d : Nat} (hd : 60 ≤ d) {M : xM} {P : xM → Prop} {p q : Nat} (hT : TC M) (hp : mI M 0 10 = nI p) (hti : Sp (fX1_takeItem (d - 1)) [.ref 8, .ref 2, .int (nI p)] M (fun r A => r = some (.int 1) ∧ P A)) (hP : ∀ A, P A → TC A ∧ mI A 8 2 = nI q ∧ mI A 0 10 = nI p) : Sp (fX5_skip d) [.ref 0] M (fun r B => r = some (.int (nI q - nI p)) ∧ ∃ A, P A ∧ B = tX5_report (stI A 0 10 (nI q)) 0 (-1)) := by
  refine Sp.of pn_X5 (Nat.le_of_ble_eq_true rfl) (fun h => Bool.noConfusion h) ?_
  refine aw_aload_n dX5_skip_0 0 rfl ?_
  refine aw_getR (b := 8) dX5_skip_1 fl_X5_35 rfl (hT.s 0 (by decide)) (hT.n 0 (by decide)) (hT.r 0 4 (by decide) (by decide)) ?_
  refine aw_aload_n dX5_skip_4 0 rfl ?_
  refine aw_getR (b := 2) dX5_skip_5 fl_X5_20 rfl (hT.s 0 (by decide)) (hT.n 0 (by decide)) (hT.r 0 1 (by decide) (by decide)) ?_
  refine aw_aload_n dX5_skip_8 0 rfl ?_
  refine aw_getI dX5_skip_9 fl_X5_64 (hT.s 0 (by decide)) (hT.n 0 (by decide)) ?_
  refine aw_topE hp ?_
  refine aw_callVx [.ref 2, .int (nI p)] [] hti dX5_skip_12 ml_X5_238 im_X1_takeItem (hT.s 8 (by decide)) (hT.n 8 (by decide)) rfl rfl (dl1 (d := d) (by omega)) rfl rfl (Nat.le_of_ble_eq_true rfl) rfl rfl (Nat.zero_le _) (Nat.zero_le _) (fun r A1 hA => ?_)
  obtain ⟨rfl, hA⟩ := hA
  refine aw_cons ?_
  refine aw_if_ne 32 dX5_skip_15 (by decide) (fun c1 => ?_) (fun c1 => absurd c1 (by decide))
  refine aw_aload_n dX5_skip_32 0 rfl ?_
  refine aw_getR (b := 8) dX5_skip_33 fl_X5_35 rfl ((hP A1 hA).1.s 0 (by decide)) ((hP A1 hA).1.n 0 (by decide)) ((hP A1 hA).1.r 0 4 (by decide) (by decide)) ?_
  refine aw_getI dX5_skip_36 fl_X5_245 ((hP A1 hA).1.s 8 (by decide)) ((hP A1 hA).1.n 8 (by decide)) ?_
  refine aw_topE (hP A1 hA).2.1 ?_
  refine aw_aload_n dX5_skip_39 0 rfl ?_
  refine aw_getI dX5_skip_40 fl_X5_64 ((hP A1 hA).1.s 0 (by decide)) ((hP A1 hA).1.n 0 (by decide)) ?_
  refine aw_topE (hP A1 hA).2.2 ?_
  refine aw_isub dX5_skip_43 ?_
  refine aw_istore_n [(1, .int ((nI q) - (nI p))), (0, .ref 0)] dX5_skip_44 (Nat.le_of_ble_eq_true rfl) rfl ?_
  refine aw_aload_n dX5_skip_45 1 rfl ?_
  refine aw_aload_n dX5_skip_46 1 rfl ?_
  refine aw_getR (b := 8) dX5_skip_47 fl_X5_35 rfl ((hP A1 hA).1.s 0 (by decide)) ((hP A1 hA).1.n 0 (by decide)) ((hP A1 hA).1.r 0 4 (by decide) (by decide)) ?_
  refine aw_getI dX5_skip_50 fl_X5_245 ((hP A1 hA).1.s 8 (by decide)) ((hP A1 hA).1.n 8 (by decide)) ?_
  refine aw_topE (hP A1 hA).2.1 ?_
  refine aw_putI dX5_skip_53 fl_X5_64 (Or.inl rfl) ((hP A1 hA).1.s 0 (by decide)) ((hP A1 hA).1.n 0 (by decide)) ?_
  refine aw_aload_n dX5_skip_56 1 rfl ?_
  refine aw_iconst (v := 0) dX5_skip_57 (by decide) ?_
  refine aw_iconst (v := -1) dX5_skip_58 (by decide) ?_
  refine aw_callVi [.int 0, .int (-1)] [] (sp_X5_report (d := d - 1) (by omega) 0 (-1) (hP A1 hA).1) dX5_skip_59 ml_X5_138 im_X5_report ((hP A1 hA).1.s 0 (by decide)) ((hP A1 hA).1.n 0 (by decide)) rfl rfl (dl1 (d := d) (by omega)) rfl rfl (Nat.le_of_ble_eq_true rfl) rfl rfl (Nat.zero_le _) (Nat.zero_le _) ?_
  refine aw_pop dX5_skip_62 rfl ?_
  refine aw_iload_n dX5_skip_63 0 rfl ?_
  refine aw_iret dX5_skip_64 rfl (Nat.zero_le _) (Nat.zero_le _) ?_
  exact ⟨rfl, A1, hA, rfl⟩
theorem sp_X6_skip_f {d : Nat} (hd : 60 ≤ d) {M : xM} {P : xM → Prop} {p L f : Nat} (hT : TR M) (hl : mI M 0 6 = nI L) (bl : L ≤ 200) (hp : mI M 0 7 = nI p) (hri : Sp (fX6_readsItem (d - 1)) [.ref 0, .int (nI p)] (ftM M L) (fun r C => (∃ y, r = some (.int y)) ∧ P C)) (hf : f < 2 ^ 31) (hP : ∀ C, P C → TR C ∧ mI C 0 25 = nI f) : Sp (fX6_skip d) [.ref 0] M (fun r B => r = some (.int (-10)) ∧ ∃ C, P C ∧ B = tX6_tells C (-10) (nI f)) := by
  refine Sp.of pn_X6 (Nat.le_of_ble_eq_true rfl) (fun h => Bool.noConfusion h) ?_
  refine aw_aload_n dX6_skip_0 0 rfl ?_
  refine aw_callVv [] [] (sp_ft (d := d - 1) hT hl bl) dX6_skip_1 ml_X6_369 im_X6_fromTape (hT.s 0 (by decide)) (hT.n 0 (by decide)) rfl rfl (dl1 (d := d) (by omega)) rfl rfl (Nat.le_of_ble_eq_true rfl) rfl rfl (Nat.zero_le _) (Nat.zero_le _) ?_
  refine aw_aload_n dX6_skip_4 0 rfl ?_
  refine aw_aload_n dX6_skip_5 0 rfl ?_
  refine aw_getI dX6_skip_6 fl_X6_366 (((sT_ftM M L).TR hT).s 0 (by decide)) (((sT_ftM M L).TR hT).n 0 (by decide)) ?_
  refine aw_topE ((ftM_0 M L (by decide)).trans hp) ?_
  refine aw_callVx [.int (nI p)] [] hri dX6_skip_9 ml_X6_372 im_X6_readsItem (((sT_ftM M L).TR hT).s 0 (by decide)) (((sT_ftM M L).TR hT).n 0 (by decide)) rfl rfl (dl1 (d := d) (by omega)) rfl rfl (Nat.le_of_ble_eq_true rfl) rfl rfl (Nat.zero_le _) (Nat.zero_le _) (fun r C1 hC => ?_)
  obtain ⟨⟨y, rfl⟩, hC⟩ := hC
  refine aw_cons ?_
  refine aw_istore_n [(1, .int y), (0, .ref 0)] dX6_skip_12 (Nat.le_of_ble_eq_true rfl) rfl ?_
  refine aw_aload_n dX6_skip_13 1 rfl ?_
  refine aw_getI dX6_skip_14 fl_X6_283 ((hP C1 hC).1.s 0 (by decide)) ((hP C1 hC).1.n 0 (by decide)) ?_
  refine aw_topE (hP C1 hC).2 ?_
  refine aw_if_lt 31 dX6_skip_17 (by decide) (fun c1 => absurd c1 (nI_nn (by omega))) (fun c1 => ?_)
  refine aw_aload_n dX6_skip_20 1 rfl ?_
  refine aw_bipush (v := -10) dX6_skip_21 (by decide) ?_
  refine aw_aload_n dX6_skip_23 1 rfl ?_
  refine aw_getI dX6_skip_24 fl_X6_283 ((hP C1 hC).1.s 0 (by decide)) ((hP C1 hC).1.n 0 (by decide)) ?_
  refine aw_topE (hP C1 hC).2 ?_
  refine aw_callVi [.int (-10), .int (nI f)] [] (sp_X6_tells (d := d - 1) (by omega) (-10) (nI f) (hP C1 hC).1) dX6_skip_27 ml_X6_192 im_X6_tells ((hP C1 hC).1.s 0 (by decide)) ((hP C1 hC).1.n 0 (by decide)) rfl rfl (dl1 (d := d) (by omega)) rfl rfl (Nat.le_of_ble_eq_true rfl) rfl rfl (Nat.zero_le _) (Nat.zero_le _) ?_
  refine aw_iret dX6_skip_30 rfl (Nat.zero_le _) (Nat.zero_le _) ?_
  exact ⟨rfl, C1, hC, rfl⟩
theorem sp_X6_skip_k {d : Nat} (hd : 60 ≤ d) {M : xM} {P : xM → Prop} {p L q : Nat} (hT : TR M) (hl : mI M 0 6 = nI L) (bl : L ≤ 200) (hp : mI M 0 7 = nI p) (hri : Sp (fX6_readsItem (d - 1)) [.ref 0, .int (nI p)] (ftM M L) (fun r C => r = some (.int (nI q)) ∧ P C)) (hP : ∀ C, P C → TR C ∧ mI C 0 25 = -1 ∧ mI C 0 7 = nI p) : Sp (fX6_skip d) [.ref 0] M (fun r B => r = some (.int (nI q - nI p)) ∧ ∃ C, P C ∧ B = tX6_tells (stI C 0 7 (nI q)) 0 (-1)) := by
  refine Sp.of pn_X6 (Nat.le_of_ble_eq_true rfl) (fun h => Bool.noConfusion h) ?_
  refine aw_aload_n dX6_skip_0 0 rfl ?_
  refine aw_callVv [] [] (sp_ft (d := d - 1) hT hl bl) dX6_skip_1 ml_X6_369 im_X6_fromTape (hT.s 0 (by decide)) (hT.n 0 (by decide)) rfl rfl (dl1 (d := d) (by omega)) rfl rfl (Nat.le_of_ble_eq_true rfl) rfl rfl (Nat.zero_le _) (Nat.zero_le _) ?_
  refine aw_aload_n dX6_skip_4 0 rfl ?_
  refine aw_aload_n dX6_skip_5 0 rfl ?_
  refine aw_getI dX6_skip_6 fl_X6_366 (((sT_ftM M L).TR hT).s 0 (by decide)) (((sT_ftM M L).TR hT).n 0 (by decide)) ?_
  refine aw_topE ((ftM_0 M L (by decide)).trans hp) ?_
  refine aw_callVx [.int (nI p)] [] hri dX6_skip_9 ml_X6_372 im_X6_readsItem (((sT_ftM M L).TR hT).s 0 (by decide)) (((sT_ftM M L).TR hT).n 0 (by decide)) rfl rfl (dl1 (d := d) (by omega)) rfl rfl (Nat.le_of_ble_eq_true rfl) rfl rfl (Nat.zero_le _) (Nat.zero_le _) (fun r C1 hC => ?_)
  obtain ⟨rfl, hC⟩ := hC
  refine aw_cons ?_
  refine aw_istore_n [(1, .int (nI q)), (0, .ref 0)] dX6_skip_12 (Nat.le_of_ble_eq_true rfl) rfl ?_
  refine aw_aload_n dX6_skip_13 1 rfl ?_
  refine aw_getI dX6_skip_14 fl_X6_283 ((hP C1 hC).1.s 0 (by decide)) ((hP C1 hC).1.n 0 (by decide)) ?_
  refine aw_topE (hP C1 hC).2.1 ?_
  refine aw_if_lt 31 dX6_skip_17 (by decide) (fun c1 => ?_) (fun c1 => absurd (by decide) c1)
  refine aw_iload_n dX6_skip_31 0 rfl ?_
  refine aw_aload_n dX6_skip_32 1 rfl ?_
  refine aw_getI dX6_skip_33 fl_X6_366 ((hP C1 hC).1.s 0 (by decide)) ((hP C1 hC).1.n 0 (by decide)) ?_
  refine aw_topE (hP C1 hC).2.2 ?_
  refine aw_isub dX6_skip_36 ?_
  refine aw_istore_n [(2, .int ((nI q) - (nI p))), (1, .int (nI q)), (0, .ref 0)] dX6_skip_37 (Nat.le_of_ble_eq_true rfl) rfl ?_
  refine aw_aload_n dX6_skip_38 2 rfl ?_
  refine aw_iload_n dX6_skip_39 1 rfl ?_
  refine aw_putI dX6_skip_40 fl_X6_366 (Or.inl rfl) ((hP C1 hC).1.s 0 (by decide)) ((hP C1 hC).1.n 0 (by decide)) ?_
  refine aw_aload_n dX6_skip_43 2 rfl ?_
  refine aw_iconst (v := 0) dX6_skip_44 (by decide) ?_
  refine aw_iconst (v := -1) dX6_skip_45 (by decide) ?_
  refine aw_callVi [.int 0, .int (-1)] [] (sp_X6_tells (d := d - 1) (by omega) 0 (-1) (hP C1 hC).1) dX6_skip_46 ml_X6_192 im_X6_tells ((hP C1 hC).1.s 0 (by decide)) ((hP C1 hC).1.n 0 (by decide)) rfl rfl (dl1 (d := d) (by omega)) rfl rfl (Nat.le_of_ble_eq_true rfl) rfl rfl (Nat.zero_le _) (Nat.zero_le _) ?_
  refine aw_pop dX6_skip_49 rfl ?_
  refine aw_iload_n dX6_skip_50 0 rfl ?_
  refine aw_iret dX6_skip_51 rfl (Nat.zero_le _) (Nat.zero_le _) ?_
  exact ⟨rfl, C1, hC, rfl⟩
