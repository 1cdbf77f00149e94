-- READ AND TWIN, BY OUTCOME
theorem sp_X5_read_f {d : Nat} (hd : 60 ≤ d) {M : xM} {P : xM → Prop} {p f : Nat} (hT : TC M) (hp : mI M 0 10 = nI p) (hti : Sp (fX1_takeItem (d - 1)) [.ref 8, .ref 2, .int (nI p)] M (fun r A => r = some (.int 0) ∧ P A)) (hP : ∀ A, P A → TC A ∧ mI A 8 3 = nI f) : Sp (fX5_read d) [.ref 0] M (fun r B => r = some (.int (-10)) ∧ ∃ A, P A ∧ B = tX5_report A (-10) (nI f)) := by
  refine Sp.of pn_X5 (Nat.le_of_ble_eq_true rfl) (fun h => Bool.noConfusion h) ?_
  refine aw_aload_n dX5_read_0 0 rfl ?_
  refine aw_getR (b := 8) dX5_read_1 fl_X5_35 rfl (hT.s 0 (by decide)) (hT.n 0 (by decide)) (hT.r 0 4 (by decide) (by decide)) ?_
  refine aw_aload_n dX5_read_4 0 rfl ?_
  refine aw_getR (b := 2) dX5_read_5 fl_X5_20 rfl (hT.s 0 (by decide)) (hT.n 0 (by decide)) (hT.r 0 1 (by decide) (by decide)) ?_
  refine aw_aload_n dX5_read_8 0 rfl ?_
  refine aw_getI dX5_read_9 fl_X5_64 (hT.s 0 (by decide)) (hT.n 0 (by decide)) ?_
  refine aw_topE hp ?_
  refine aw_callVx [.ref 2, .int (nI p)] [] hti dX5_read_12 ml_X5_238 im_X1_takeItem (hT.s 8 (by decide)) (hT.n 8 (by decide)) rfl rfl (dl1 (d := d) (by omega)) rfl rfl (Nat.le_of_ble_eq_true rfl) rfl rfl (Nat.zero_le _) (Nat.zero_le _) (fun r A1 hA => ?_)
  obtain ⟨rfl, hA⟩ := hA
  refine aw_cons ?_
  refine aw_if_ne 32 dX5_read_15 (by decide) (fun c1 => absurd rfl c1) (fun c1 => ?_)
  refine aw_aload_n dX5_read_18 0 rfl ?_
  refine aw_bipush (v := -10) dX5_read_19 (by decide) ?_
  refine aw_aload_n dX5_read_21 0 rfl ?_
  refine aw_getR (b := 8) dX5_read_22 fl_X5_35 rfl ((hP A1 hA).1.s 0 (by decide)) ((hP A1 hA).1.n 0 (by decide)) ((hP A1 hA).1.r 0 4 (by decide) (by decide)) ?_
  refine aw_getI dX5_read_25 fl_X5_242 ((hP A1 hA).1.s 8 (by decide)) ((hP A1 hA).1.n 8 (by decide)) ?_
  refine aw_topE (hP A1 hA).2 ?_
  refine aw_callVi [.int (-10), .int (nI f)] [] (sp_X5_report (d := d - 1) (by omega) (-10) (nI f) (hP A1 hA).1) dX5_read_28 ml_X5_138 im_X5_report ((hP A1 hA).1.s 0 (by decide)) ((hP A1 hA).1.n 0 (by decide)) rfl rfl (dl1 (d := d) (by omega)) rfl rfl (Nat.le_of_ble_eq_true rfl) rfl rfl (Nat.zero_le _) (Nat.zero_le _) ?_
  refine aw_iret dX5_read_31 rfl (Nat.zero_le _) (Nat.zero_le _) ?_
  exact ⟨rfl, A1, hA, rfl⟩
theorem sp_X5_read_u {d : Nat} (hd : 60 ≤ d) {M : xM} {P : xM → Prop} {p q : Nat} (hT : TC M) (hp : mI M 0 10 = nI p) (hti : Sp (fX1_takeItem (d - 1)) [.ref 8, .ref 2, .int (nI p)] M (fun r A => r = some (.int 1) ∧ P A)) (hP : ∀ A, P A → TC A ∧ mI A 8 2 = nI q) (hst : ∀ A, P A → Sp (fX5_settle (d - 1)) [.ref 0] A (dt (some (.int (-3))) A)) : Sp (fX5_read d) [.ref 0] M (fun r B => r = some (.int (-3)) ∧ ∃ A, P A ∧ B = tX5_report A (-3) (-1)) := by
  refine Sp.of pn_X5 (Nat.le_of_ble_eq_true rfl) (fun h => Bool.noConfusion h) ?_
  refine aw_aload_n dX5_read_0 0 rfl ?_
  refine aw_getR (b := 8) dX5_read_1 fl_X5_35 rfl (hT.s 0 (by decide)) (hT.n 0 (by decide)) (hT.r 0 4 (by decide) (by decide)) ?_
  refine aw_aload_n dX5_read_4 0 rfl ?_
  refine aw_getR (b := 2) dX5_read_5 fl_X5_20 rfl (hT.s 0 (by decide)) (hT.n 0 (by decide)) (hT.r 0 1 (by decide) (by decide)) ?_
  refine aw_aload_n dX5_read_8 0 rfl ?_
  refine aw_getI dX5_read_9 fl_X5_64 (hT.s 0 (by decide)) (hT.n 0 (by decide)) ?_
  refine aw_topE hp ?_
  refine aw_callVx [.ref 2, .int (nI p)] [] hti dX5_read_12 ml_X5_238 im_X1_takeItem (hT.s 8 (by decide)) (hT.n 8 (by decide)) rfl rfl (dl1 (d := d) (by omega)) rfl rfl (Nat.le_of_ble_eq_true rfl) rfl rfl (Nat.zero_le _) (Nat.zero_le _) (fun r A1 hA => ?_)
  obtain ⟨rfl, hA⟩ := hA
  refine aw_cons ?_
  refine aw_if_ne 32 dX5_read_15 (by decide) (fun c1 => ?_) (fun c1 => absurd c1 (by decide))
  refine aw_aload_n dX5_read_32 0 rfl ?_
  refine aw_getR (b := 8) dX5_read_33 fl_X5_35 rfl ((hP A1 hA).1.s 0 (by decide)) ((hP A1 hA).1.n 0 (by decide)) ((hP A1 hA).1.r 0 4 (by decide) (by decide)) ?_
  refine aw_getI dX5_read_36 fl_X5_245 ((hP A1 hA).1.s 8 (by decide)) ((hP A1 hA).1.n 8 (by decide)) ?_
  refine aw_topE (hP A1 hA).2 ?_
  refine aw_istore_n [(1, .int (nI q)), (0, .ref 0)] dX5_read_39 (Nat.le_of_ble_eq_true rfl) rfl ?_
  refine aw_aload_n dX5_read_40 1 rfl ?_
  refine aw_callVi [] [] (hst A1 hA) dX5_read_41 ml_X5_248 im_X5_settle ((hP A1 hA).1.s 0 (by decide)) ((hP A1 hA).1.n 0 (by decide)) rfl rfl (dl1 (d := d) (by omega)) rfl rfl (Nat.le_of_ble_eq_true rfl) rfl rfl (Nat.zero_le _) (Nat.zero_le _) ?_
  refine aw_istore_n [(2, .int (-3)), (1, .int (nI q)), (0, .ref 0)] dX5_read_44 (Nat.le_of_ble_eq_true rfl) rfl ?_
  refine aw_iload_n dX5_read_45 0 rfl ?_
  refine aw_if_ge 56 dX5_read_46 (by decide) (fun c2 => absurd c2 (by decide)) (fun c2 => ?_)
  refine aw_aload_n dX5_read_49 2 rfl ?_
  refine aw_iload_n dX5_read_50 0 rfl ?_
  refine aw_iconst (v := -1) dX5_read_51 (by decide) ?_
  refine aw_callVi [.int (-3), .int (-1)] [] (sp_X5_report (d := d - 1) (by omega) (-3) (-1) (hP A1 hA).1) dX5_read_52 ml_X5_138 im_X5_report ((hP A1 hA).1.s 0 (by decide)) ((hP A1 hA).1.n 0 (by decide)) rfl rfl (dl1 (d := d) (by omega)) rfl rfl (Nat.le_of_ble_eq_true rfl) rfl rfl (Nat.zero_le _) (Nat.zero_le _) ?_
  refine aw_iret dX5_read_55 rfl (Nat.zero_le _) (Nat.zero_le _) ?_
  exact ⟨rfl, A1, hA, rfl⟩
theorem sp_X5_read_k {d : Nat} (hd : 60 ≤ d) {M : xM} {Q : xM → Prop} {f : Nat} {P : xM → Prop} {p q : Nat} (hT : TC M) (hp : mI M 0 10 = nI p) (hti : Sp (fX1_takeItem (d - 1)) [.ref 8, .ref 2, .int (nI p)] M (fun r A => r = some (.int 1) ∧ P A)) (hP : ∀ A, P A → TC A ∧ mI A 8 2 = nI q) (hf : f < 12) (hst : ∀ A, P A → Sp (fX5_settle (d - 1)) [.ref 0] A (fun r B => r = some (.int (nI f)) ∧ Q B)) (hQ : ∀ B, Q B → TC B) : Sp (fX5_read d) [.ref 0] M (fun r C => r = some (.int (nI f)) ∧ ∃ B, Q B ∧ C = tX5_report (stI B 0 10 (nI q)) 0 (-1)) := by
  refine Sp.of pn_X5 (Nat.le_of_ble_eq_true rfl) (fun h => Bool.noConfusion h) ?_
  refine aw_aload_n dX5_read_0 0 rfl ?_
  refine aw_getR (b := 8) dX5_read_1 fl_X5_35 rfl (hT.s 0 (by decide)) (hT.n 0 (by decide)) (hT.r 0 4 (by decide) (by decide)) ?_
  refine aw_aload_n dX5_read_4 0 rfl ?_
  refine aw_getR (b := 2) dX5_read_5 fl_X5_20 rfl (hT.s 0 (by decide)) (hT.n 0 (by decide)) (hT.r 0 1 (by decide) (by decide)) ?_
  refine aw_aload_n dX5_read_8 0 rfl ?_
  refine aw_getI dX5_read_9 fl_X5_64 (hT.s 0 (by decide)) (hT.n 0 (by decide)) ?_
  refine aw_topE hp ?_
  refine aw_callVx [.ref 2, .int (nI p)] [] hti dX5_read_12 ml_X5_238 im_X1_takeItem (hT.s 8 (by decide)) (hT.n 8 (by decide)) rfl rfl (dl1 (d := d) (by omega)) rfl rfl (Nat.le_of_ble_eq_true rfl) rfl rfl (Nat.zero_le _) (Nat.zero_le _) (fun r A1 hA => ?_)
  obtain ⟨rfl, hA⟩ := hA
  refine aw_cons ?_
  refine aw_if_ne 32 dX5_read_15 (by decide) (fun c1 => ?_) (fun c1 => absurd c1 (by decide))
  refine aw_aload_n dX5_read_32 0 rfl ?_
  refine aw_getR (b := 8) dX5_read_33 fl_X5_35 rfl ((hP A1 hA).1.s 0 (by decide)) ((hP A1 hA).1.n 0 (by decide)) ((hP A1 hA).1.r 0 4 (by decide) (by decide)) ?_
  refine aw_getI dX5_read_36 fl_X5_245 ((hP A1 hA).1.s 8 (by decide)) ((hP A1 hA).1.n 8 (by decide)) ?_
  refine aw_topE (hP A1 hA).2 ?_
  refine aw_istore_n [(1, .int (nI q)), (0, .ref 0)] dX5_read_39 (Nat.le_of_ble_eq_true rfl) rfl ?_
  refine aw_aload_n dX5_read_40 1 rfl ?_
  refine aw_callVx [] [] (hst A1 hA) dX5_read_41 ml_X5_248 im_X5_settle ((hP A1 hA).1.s 0 (by decide)) ((hP A1 hA).1.n 0 (by decide)) rfl rfl (dl1 (d := d) (by omega)) rfl rfl (Nat.le_of_ble_eq_true rfl) rfl rfl (Nat.zero_le _) (Nat.zero_le _) (fun r B1 hB => ?_)
  obtain ⟨rfl, hB⟩ := hB
  refine aw_cons ?_
  refine aw_istore_n [(2, .int (nI f)), (1, .int (nI q)), (0, .ref 0)] dX5_read_44 (Nat.le_of_ble_eq_true rfl) rfl ?_
  refine aw_iload_n dX5_read_45 0 rfl ?_
  refine aw_if_ge 56 dX5_read_46 (by decide) (fun c2 => ?_) (fun c2 => absurd (Int32.not_lt.mp (nI_nn (by omega))) c2)
  refine aw_aload_n dX5_read_56 2 rfl ?_
  refine aw_iload_n dX5_read_57 1 rfl ?_
  refine aw_putI dX5_read_58 fl_X5_64 (Or.inl rfl) ((hQ B1 hB).s 0 (by decide)) ((hQ B1 hB).n 0 (by decide)) ?_
  refine aw_aload_n dX5_read_61 2 rfl ?_
  refine aw_iconst (v := 0) dX5_read_62 (by decide) ?_
  refine aw_iconst (v := -1) dX5_read_63 (by decide) ?_
  refine aw_callVi [.int 0, .int (-1)] [] (sp_X5_report (d := d - 1) (by omega) 0 (-1) ((sT.I B1 0 10 (nI q)).TC (hQ B1 hB))) dX5_read_64 ml_X5_138 im_X5_report (((sT.I B1 0 10 (nI q)).TC (hQ B1 hB)).s 0 (by decide)) (((sT.I B1 0 10 (nI q)).TC (hQ B1 hB)).n 0 (by decide)) rfl rfl (dl1 (d := d) (by omega)) rfl rfl (Nat.le_of_ble_eq_true rfl) rfl rfl (Nat.zero_le _) (Nat.zero_le _) ?_
  refine aw_pop dX5_read_67 rfl ?_
  refine aw_iload_n dX5_read_68 0 rfl ?_
  refine aw_iret dX5_read_69 rfl (Nat.zero_le _) (Nat.zero_le _) ?_
  exact ⟨rfl, B1, hB, rfl⟩
theorem sp_X6_read_f {d : Nat} (hd : 60 ≤ d) {M : xM} {P : xM → Prop} {p L f : Nat} (hT : TR M) (hl : mI M 0 6 = nI L) (bl : L ≤ 200) (hp : mI M 0 7 = nI p) (hri : Sp (fX6_readsItem (d - 1)) [.ref 0, .int (nI p)] (ftM M L) (fun r C => (∃ y, r = some (.int y)) ∧ P C)) (hf : f < 2 ^ 31) (hP : ∀ C, P C → TR C ∧ mI C 0 25 = nI f) : Sp (fX6_read d) [.ref 0] M (fun r B => r = some (.int (-10)) ∧ ∃ C, P C ∧ B = tX6_tells C (-10) (nI f)) := by
  refine Sp.of pn_X6 (Nat.le_of_ble_eq_true rfl) (fun h => Bool.noConfusion h) ?_
  refine aw_aload_n dX6_read_0 0 rfl ?_
  refine aw_callVv [] [] (sp_ft (d := d - 1) hT hl bl) dX6_read_1 ml_X6_369 im_X6_fromTape (hT.s 0 (by decide)) (hT.n 0 (by decide)) rfl rfl (dl1 (d := d) (by omega)) rfl rfl (Nat.le_of_ble_eq_true rfl) rfl rfl (Nat.zero_le _) (Nat.zero_le _) ?_
  refine aw_aload_n dX6_read_4 0 rfl ?_
  refine aw_aload_n dX6_read_5 0 rfl ?_
  refine aw_getI dX6_read_6 fl_X6_366 (((sT_ftM M L).TR hT).s 0 (by decide)) (((sT_ftM M L).TR hT).n 0 (by decide)) ?_
  refine aw_topE ((ftM_0 M L (by decide)).trans hp) ?_
  refine aw_callVx [.int (nI p)] [] hri dX6_read_9 ml_X6_372 im_X6_readsItem (((sT_ftM M L).TR hT).s 0 (by decide)) (((sT_ftM M L).TR hT).n 0 (by decide)) rfl rfl (dl1 (d := d) (by omega)) rfl rfl (Nat.le_of_ble_eq_true rfl) rfl rfl (Nat.zero_le _) (Nat.zero_le _) (fun r C1 hC => ?_)
  obtain ⟨⟨y, rfl⟩, hC⟩ := hC
  refine aw_cons ?_
  refine aw_istore_n [(1, .int y), (0, .ref 0)] dX6_read_12 (Nat.le_of_ble_eq_true rfl) rfl ?_
  refine aw_aload_n dX6_read_13 1 rfl ?_
  refine aw_getI dX6_read_14 fl_X6_283 ((hP C1 hC).1.s 0 (by decide)) ((hP C1 hC).1.n 0 (by decide)) ?_
  refine aw_topE (hP C1 hC).2 ?_
  refine aw_if_lt 31 dX6_read_17 (by decide) (fun c1 => absurd c1 (nI_nn (by omega))) (fun c1 => ?_)
  refine aw_aload_n dX6_read_20 1 rfl ?_
  refine aw_bipush (v := -10) dX6_read_21 (by decide) ?_
  refine aw_aload_n dX6_read_23 1 rfl ?_
  refine aw_getI dX6_read_24 fl_X6_283 ((hP C1 hC).1.s 0 (by decide)) ((hP C1 hC).1.n 0 (by decide)) ?_
  refine aw_topE (hP C1 hC).2 ?_
  refine aw_callVi [.int (-10), .int (nI f)] [] (sp_X6_tells (d := d - 1) (by omega) (-10) (nI f) (hP C1 hC).1) dX6_read_27 ml_X6_192 im_X6_tells ((hP C1 hC).1.s 0 (by decide)) ((hP C1 hC).1.n 0 (by decide)) rfl rfl (dl1 (d := d) (by omega)) rfl rfl (Nat.le_of_ble_eq_true rfl) rfl rfl (Nat.zero_le _) (Nat.zero_le _) ?_
  refine aw_iret dX6_read_30 rfl (Nat.zero_le _) (Nat.zero_le _) ?_
  exact ⟨rfl, C1, hC, rfl⟩
def mrM (M : xM) (n : Nat) : xM := flI M 11 0 n (fun k => nI (12 + k))
theorem mrM_I (M : xM) (n : Nat) {x : Nat} (h : x ≠ 11) : mI (mrM M n) x = mI M x := mI_flI_ne _ h
theorem mrM_11 (M : xM) {n i : Nat} (h : i < n) : mI (mrM M n) 11 i = nI (12 + i) := by
  have := mI_flI_at M (a := 11) (lo := 0) (g := fun k => nI (12 + k)) h
  rw [Nat.zero_add] at this
  exact this
theorem lp_mr {d : Nat} {C : xM} {n : Nat} {e : Int32} {post : Option Value → xM → Prop} (hT : TR C) (hn : n ≤ 12) (kk : AW (fX6_read d) 94 [(3, .int (nI n)), (2, .int (nI n)), (0, .ref 0), (1, .int e)] [] (mrM C n) 0 0 post) : ∀ j i, i + j = n → AW (fX6_read d) 73 [(3, .int (nI i)), (2, .int (nI n)), (0, .ref 0), (1, .int e)] [] (flI C 11 0 i (fun k => nI (12 + k))) 0 0 post := by
  intro j
  induction j with
  | zero =>
    intro i hi
    obtain rfl : i = n := by omega
    refine aw_iload_n dX6_read_73 0 rfl ?_
    refine aw_iload_n dX6_read_74 1 rfl ?_
    refine aw_icmp_geN i i 94 dX6_read_75 (by decide) rfl rfl (by omega) (by omega) (fun c1 => ?_) (fun c1 => absurd (by omega) c1)
    exact kk
  | succ j ih =>
    intro i hi
    have g := ih (i + 1) (by omega)
    rw [← flI_s C 11 0 i (fun k => nI (12 + k)) (v := nI (12 + i)) rfl, Nat.zero_add] at g
    refine aw_iload_n dX6_read_73 0 rfl ?_
    refine aw_iload_n dX6_read_74 1 rfl ?_
    refine aw_icmp_geN i n 94 dX6_read_75 (by decide) rfl rfl (by omega) (by omega) (fun c1 => absurd c1 (by omega)) (fun c1 => ?_)
    refine aw_aload_n dX6_read_78 2 rfl ?_
    refine aw_getR (b := 11) dX6_read_79 fl_X6_45 rfl (((show sT C (flI C 11 0 i (fun k => nI (12 + k))) from ⟨rfl, rfl, rfl⟩).TR hT).s 0 (by decide)) (((show sT C (flI C 11 0 i (fun k => nI (12 + k))) from ⟨rfl, rfl, rfl⟩).TR hT).n 0 (by decide)) (((show sT C (flI C 11 0 i (fun k => nI (12 + k))) from ⟨rfl, rfl, rfl⟩).TR hT).r 18) ?_
    refine aw_iload_n dX6_read_82 0 rfl ?_
    refine aw_bipush (v := 12) dX6_read_83 (by decide) ?_
    refine aw_iload_n dX6_read_85 0 rfl ?_
    refine aw_iaddN 12 i dX6_read_86 rfl rfl ?_
    refine aw_iastN i dX6_read_87 (((show sT C (flI C 11 0 i (fun k => nI (12 + k))) from ⟨rfl, rfl, rfl⟩).TR hT).s 11 (by decide)) (((show sT C (flI C 11 0 i (fun k => nI (12 + k))) from ⟨rfl, rfl, rfl⟩).TR hT).n 11 (by decide)) rfl (by omega) (by first | decide | omega) ?_
    refine aw_iincN i 1 [(3, .int (nI (i + 1))), (2, .int (nI n)), (0, .ref 0), (1, .int e)] dX6_read_88 0 rfl rfl rfl (Nat.le_of_ble_eq_true rfl) rfl ?_
    refine aw_goto 73 dX6_read_91 (by decide) ?_
    exact g
theorem sp_X6_read_u {d : Nat} (hd : 60 ≤ d) {M : xM} {P : xM → Prop} {p L q k n c : Nat} (hT : TR M) (hl : mI M 0 6 = nI L) (bl : L ≤ 200) (hp : mI M 0 7 = nI p) (hri : Sp (fX6_readsItem (d - 1)) [.ref 0, .int (nI p)] (ftM M L) (fun r C => r = some (.int (nI q)) ∧ P C)) (hP : ∀ C, P C → TR C ∧ mI C 0 25 = -1 ∧ mI C 1 12 = nI k ∧ (k ≤ 13 → mI C 0 26 = nI n) ∧ sX6_things C = nI c) (hk16 : k < 16) (hk1 : ¬ k ≤ 13 → n = 1) (hn : n ≤ 12) (hc2 : c ≤ 12) (hf : 12 - c < n) : Sp (fX6_read d) [.ref 0] M (fun r B => r = some (.int (-3)) ∧ ∃ C, P C ∧ B = tX6_tells C (-3) (-1)) := by
  refine Sp.of pn_X6 (Nat.le_of_ble_eq_true rfl) (fun h => Bool.noConfusion h) ?_
  by_cases hk : k ≤ 13
  · skip
    refine aw_aload_n dX6_read_0 0 rfl ?_
    refine aw_callVv [] [] (sp_ft (d := d - 1) hT hl bl) dX6_read_1 ml_X6_369 im_X6_fromTape (hT.s 0 (by decide)) (hT.n 0 (by decide)) rfl rfl (dl1 (d := d) (by omega)) rfl rfl (Nat.le_of_ble_eq_true rfl) rfl rfl (Nat.zero_le _) (Nat.zero_le _) ?_
    refine aw_aload_n dX6_read_4 0 rfl ?_
    refine aw_aload_n dX6_read_5 0 rfl ?_
    refine aw_getI dX6_read_6 fl_X6_366 (((sT_ftM M L).TR hT).s 0 (by decide)) (((sT_ftM M L).TR hT).n 0 (by decide)) ?_
    refine aw_topE ((ftM_0 M L (by decide)).trans hp) ?_
    refine aw_callVx [.int (nI p)] [] hri dX6_read_9 ml_X6_372 im_X6_readsItem (((sT_ftM M L).TR hT).s 0 (by decide)) (((sT_ftM M L).TR hT).n 0 (by decide)) rfl rfl (dl1 (d := d) (by omega)) rfl rfl (Nat.le_of_ble_eq_true rfl) rfl rfl (Nat.zero_le _) (Nat.zero_le _) (fun r C1 hC => ?_)
    obtain ⟨rfl, hC⟩ := hC
    refine aw_cons ?_
    refine aw_istore_n [(1, .int (nI q)), (0, .ref 0)] dX6_read_12 (Nat.le_of_ble_eq_true rfl) rfl ?_
    refine aw_aload_n dX6_read_13 1 rfl ?_
    refine aw_getI dX6_read_14 fl_X6_283 ((hP C1 hC).1.s 0 (by decide)) ((hP C1 hC).1.n 0 (by decide)) ?_
    refine aw_topE (hP C1 hC).2.1 ?_
    refine aw_if_lt 31 dX6_read_17 (by decide) (fun c1 => ?_) (fun c1 => absurd (by decide) c1)
    refine aw_aload_n dX6_read_31 1 rfl ?_
    refine aw_getR (b := 1) dX6_read_32 fl_X6_7 rfl ((hP C1 hC).1.s 0 (by decide)) ((hP C1 hC).1.n 0 (by decide)) ((hP C1 hC).1.r 0) ?_
    refine aw_bipush (v := 12) dX6_read_35 (by decide) ?_
    refine aw_ialdN 12 dX6_read_37 ((hP C1 hC).1.s 1 (by decide)) ((hP C1 hC).1.n 1 (by decide)) rfl (by omega) (by first | decide | omega) ?_
    refine aw_topE (hP C1 hC).2.2.1 ?_
    refine aw_bipush (v := 13) dX6_read_38 (by decide) ?_
    refine aw_icmp_leN k 13 47 dX6_read_40 (by decide) rfl rfl (by omega) (by omega) (fun c2 => ?_) (fun c2 => absurd (by omega) c2)
    refine aw_aload_n dX6_read_47 1 rfl ?_
    refine aw_getI dX6_read_48 fl_X6_327 ((hP C1 hC).1.s 0 (by decide)) ((hP C1 hC).1.n 0 (by decide)) ?_
    refine aw_topE ((hP C1 hC).2.2.2.1 hk) ?_
    refine aw_istore_n [(2, .int (nI n)), (1, .int (nI q)), (0, .ref 0)] dX6_read_51 (Nat.le_of_ble_eq_true rfl) rfl ?_
    refine aw_bipush (v := 12) dX6_read_52 (by decide) ?_
    refine aw_aload_n dX6_read_54 2 rfl ?_
    refine aw_callVi [] [.int 12] (sp_X6_things (d := d - 1) (by omega) (hP C1 hC).1) dX6_read_55 ml_X6_173 im_X6_things ((hP C1 hC).1.s 0 (by decide)) ((hP C1 hC).1.n 0 (by decide)) rfl rfl (dl1 (d := d) (by omega)) rfl rfl (Nat.le_of_ble_eq_true rfl) rfl rfl (Nat.zero_le _) (Nat.zero_le _) ?_
    refine aw_topE (hP C1 hC).2.2.2.2 ?_
    refine aw_isubN 12 c dX6_read_58 rfl rfl (by omega) ?_
    refine aw_iload_n dX6_read_59 0 rfl ?_
    refine aw_icmp_geN (12 - c) n 71 dX6_read_60 (by decide) rfl rfl (by omega) (by omega) (fun c3 => absurd c3 (by omega)) (fun c3 => ?_)
    refine aw_aload_n dX6_read_63 2 rfl ?_
    refine aw_bipush (v := -3) dX6_read_64 (by decide) ?_
    refine aw_iconst (v := -1) dX6_read_66 (by decide) ?_
    refine aw_callVi [.int (-3), .int (-1)] [] (sp_X6_tells (d := d - 1) (by omega) (-3) (-1) (hP C1 hC).1) dX6_read_67 ml_X6_192 im_X6_tells ((hP C1 hC).1.s 0 (by decide)) ((hP C1 hC).1.n 0 (by decide)) rfl rfl (dl1 (d := d) (by omega)) rfl rfl (Nat.le_of_ble_eq_true rfl) rfl rfl (Nat.zero_le _) (Nat.zero_le _) ?_
    refine aw_iret dX6_read_70 rfl (Nat.zero_le _) (Nat.zero_le _) ?_
    exact ⟨rfl, C1, hC, rfl⟩
  · obtain rfl := hk1 hk
    refine aw_aload_n dX6_read_0 0 rfl ?_
    refine aw_callVv [] [] (sp_ft (d := d - 1) hT hl bl) dX6_read_1 ml_X6_369 im_X6_fromTape (hT.s 0 (by decide)) (hT.n 0 (by decide)) rfl rfl (dl1 (d := d) (by omega)) rfl rfl (Nat.le_of_ble_eq_true rfl) rfl rfl (Nat.zero_le _) (Nat.zero_le _) ?_
    refine aw_aload_n dX6_read_4 0 rfl ?_
    refine aw_aload_n dX6_read_5 0 rfl ?_
    refine aw_getI dX6_read_6 fl_X6_366 (((sT_ftM M L).TR hT).s 0 (by decide)) (((sT_ftM M L).TR hT).n 0 (by decide)) ?_
    refine aw_topE ((ftM_0 M L (by decide)).trans hp) ?_
    refine aw_callVx [.int (nI p)] [] hri dX6_read_9 ml_X6_372 im_X6_readsItem (((sT_ftM M L).TR hT).s 0 (by decide)) (((sT_ftM M L).TR hT).n 0 (by decide)) rfl rfl (dl1 (d := d) (by omega)) rfl rfl (Nat.le_of_ble_eq_true rfl) rfl rfl (Nat.zero_le _) (Nat.zero_le _) (fun r C1 hC => ?_)
    obtain ⟨rfl, hC⟩ := hC
    refine aw_cons ?_
    refine aw_istore_n [(1, .int (nI q)), (0, .ref 0)] dX6_read_12 (Nat.le_of_ble_eq_true rfl) rfl ?_
    refine aw_aload_n dX6_read_13 1 rfl ?_
    refine aw_getI dX6_read_14 fl_X6_283 ((hP C1 hC).1.s 0 (by decide)) ((hP C1 hC).1.n 0 (by decide)) ?_
    refine aw_topE (hP C1 hC).2.1 ?_
    refine aw_if_lt 31 dX6_read_17 (by decide) (fun c1 => ?_) (fun c1 => absurd (by decide) c1)
    refine aw_aload_n dX6_read_31 1 rfl ?_
    refine aw_getR (b := 1) dX6_read_32 fl_X6_7 rfl ((hP C1 hC).1.s 0 (by decide)) ((hP C1 hC).1.n 0 (by decide)) ((hP C1 hC).1.r 0) ?_
    refine aw_bipush (v := 12) dX6_read_35 (by decide) ?_
    refine aw_ialdN 12 dX6_read_37 ((hP C1 hC).1.s 1 (by decide)) ((hP C1 hC).1.n 1 (by decide)) rfl (by omega) (by first | decide | omega) ?_
    refine aw_topE (hP C1 hC).2.2.1 ?_
    refine aw_bipush (v := 13) dX6_read_38 (by decide) ?_
    refine aw_icmp_leN k 13 47 dX6_read_40 (by decide) rfl rfl (by omega) (by omega) (fun c2 => absurd c2 (by omega)) (fun c2 => ?_)
    refine aw_iconst (v := 1) dX6_read_43 (by decide) ?_
    refine aw_goto 51 dX6_read_44 (by decide) ?_
    refine aw_istore_n [(2, .int 1), (1, .int (nI q)), (0, .ref 0)] dX6_read_51 (Nat.le_of_ble_eq_true rfl) rfl ?_
    refine aw_bipush (v := 12) dX6_read_52 (by decide) ?_
    refine aw_aload_n dX6_read_54 2 rfl ?_
    refine aw_callVi [] [.int 12] (sp_X6_things (d := d - 1) (by omega) (hP C1 hC).1) dX6_read_55 ml_X6_173 im_X6_things ((hP C1 hC).1.s 0 (by decide)) ((hP C1 hC).1.n 0 (by decide)) rfl rfl (dl1 (d := d) (by omega)) rfl rfl (Nat.le_of_ble_eq_true rfl) rfl rfl (Nat.zero_le _) (Nat.zero_le _) ?_
    refine aw_topE (hP C1 hC).2.2.2.2 ?_
    refine aw_isubN 12 c dX6_read_58 rfl rfl (by omega) ?_
    refine aw_iload_n dX6_read_59 0 rfl ?_
    refine aw_icmp_geN (12 - c) 1 71 dX6_read_60 (by decide) rfl rfl (by omega) (by omega) (fun c3 => absurd c3 (by omega)) (fun c3 => ?_)
    refine aw_aload_n dX6_read_63 2 rfl ?_
    refine aw_bipush (v := -3) dX6_read_64 (by decide) ?_
    refine aw_iconst (v := -1) dX6_read_66 (by decide) ?_
    refine aw_callVi [.int (-3), .int (-1)] [] (sp_X6_tells (d := d - 1) (by omega) (-3) (-1) (hP C1 hC).1) dX6_read_67 ml_X6_192 im_X6_tells ((hP C1 hC).1.s 0 (by decide)) ((hP C1 hC).1.n 0 (by decide)) rfl rfl (dl1 (d := d) (by omega)) rfl rfl (Nat.le_of_ble_eq_true rfl) rfl rfl (Nat.zero_le _) (Nat.zero_le _) ?_
    refine aw_iret dX6_read_70 rfl (Nat.zero_le _) (Nat.zero_le _) ?_
    exact ⟨rfl, C1, hC, rfl⟩
theorem sp_X6_read_k {d : Nat} (hd : 60 ≤ d) {M : xM} {Q : xM → Prop} {f : Nat} {P : xM → Prop} {p L q k n c : Nat} (hT : TR M) (hl : mI M 0 6 = nI L) (bl : L ≤ 200) (hp : mI M 0 7 = nI p) (hri : Sp (fX6_readsItem (d - 1)) [.ref 0, .int (nI p)] (ftM M L) (fun r C => r = some (.int (nI q)) ∧ P C)) (hP : ∀ C, P C → TR C ∧ mI C 0 25 = -1 ∧ mI C 1 12 = nI k ∧ (k ≤ 13 → mI C 0 26 = nI n) ∧ sX6_things C = nI c) (hk16 : k < 16) (hk1 : ¬ k ≤ 13 → n = 1) (hn : n ≤ 12) (hc2 : c ≤ 12) (hf : n ≤ 12 - c) (hnw : ∀ C, P C → Sp (fX6_news (d - 1)) [.ref 0, .ref 11, .int (nI n)] (mrM C n) (fun r D => r = some (.int (nI f)) ∧ Q D)) (hQ : ∀ D, Q D → TR D) : Sp (fX6_read d) [.ref 0] M (fun r B => r = some (.int (nI f)) ∧ ∃ D, Q D ∧ B = tX6_tells (stI D 0 7 (nI q)) 0 (-1)) := by
  refine Sp.of pn_X6 (Nat.le_of_ble_eq_true rfl) (fun h => Bool.noConfusion h) ?_
  have tl : ∀ C1, P C1 → AW (fX6_read d) 94 [(3, .int (nI n)), (2, .int (nI n)), (0, .ref 0), (1, .int (nI q))] [] (mrM C1 n) 0 0 (fun r B => r = some (.int (nI f)) ∧ ∃ D, Q D ∧ B = tX6_tells (stI D 0 7 (nI q)) 0 (-1)) := by
    intro C1 hC
    refine aw_aload_n dX6_read_94 2 rfl ?_
    refine aw_aload_n dX6_read_95 2 rfl ?_
    refine aw_getR (b := 11) dX6_read_96 fl_X6_45 rfl (((show sT C1 (mrM C1 n) from ⟨rfl, rfl, rfl⟩).TR (hP C1 hC).1).s 0 (by decide)) (((show sT C1 (mrM C1 n) from ⟨rfl, rfl, rfl⟩).TR (hP C1 hC).1).n 0 (by decide)) (((show sT C1 (mrM C1 n) from ⟨rfl, rfl, rfl⟩).TR (hP C1 hC).1).r 18) ?_
    refine aw_iload_n dX6_read_99 1 rfl ?_
    refine aw_callVx [.ref 11, .int (nI n)] [] (hnw C1 hC) dX6_read_100 ml_X6_375 im_X6_news (((show sT C1 (mrM C1 n) from ⟨rfl, rfl, rfl⟩).TR (hP C1 hC).1).s 0 (by decide)) (((show sT C1 (mrM C1 n) from ⟨rfl, rfl, rfl⟩).TR (hP C1 hC).1).n 0 (by decide)) rfl rfl (dl1 (d := d) (by omega)) rfl rfl (Nat.le_of_ble_eq_true rfl) rfl rfl (Nat.zero_le _) (Nat.zero_le _) (fun r D1 hD => ?_)
    obtain ⟨rfl, hD⟩ := hD
    refine aw_cons ?_
    refine aw_istore_n [(3, .int (nI f)), (2, .int (nI n)), (0, .ref 0), (1, .int (nI q))] dX6_read_103 (Nat.le_of_ble_eq_true rfl) rfl ?_
    refine aw_aload_n dX6_read_104 2 rfl ?_
    refine aw_iload_n dX6_read_105 3 rfl ?_
    refine aw_putI dX6_read_106 fl_X6_366 (Or.inl rfl) ((hQ D1 hD).s 0 (by decide)) ((hQ D1 hD).n 0 (by decide)) ?_
    refine aw_aload_n dX6_read_109 2 rfl ?_
    refine aw_iconst (v := 0) dX6_read_110 (by decide) ?_
    refine aw_iconst (v := -1) dX6_read_111 (by decide) ?_
    refine aw_callVi [.int 0, .int (-1)] [] (sp_X6_tells (d := d - 1) (by omega) 0 (-1) ((sT.I D1 0 7 (nI q)).TR (hQ D1 hD))) dX6_read_112 ml_X6_192 im_X6_tells (((sT.I D1 0 7 (nI q)).TR (hQ D1 hD)).s 0 (by decide)) (((sT.I D1 0 7 (nI q)).TR (hQ D1 hD)).n 0 (by decide)) rfl rfl (dl1 (d := d) (by omega)) rfl rfl (Nat.le_of_ble_eq_true rfl) rfl rfl (Nat.zero_le _) (Nat.zero_le _) ?_
    refine aw_pop dX6_read_115 rfl ?_
    refine aw_iload_n dX6_read_116 0 rfl ?_
    refine aw_iret dX6_read_117 rfl (Nat.zero_le _) (Nat.zero_le _) ?_
    exact ⟨rfl, D1, hD, rfl⟩
  by_cases hk : k ≤ 13
  · skip
    refine aw_aload_n dX6_read_0 0 rfl ?_
    refine aw_callVv [] [] (sp_ft (d := d - 1) hT hl bl) dX6_read_1 ml_X6_369 im_X6_fromTape (hT.s 0 (by decide)) (hT.n 0 (by decide)) rfl rfl (dl1 (d := d) (by omega)) rfl rfl (Nat.le_of_ble_eq_true rfl) rfl rfl (Nat.zero_le _) (Nat.zero_le _) ?_
    refine aw_aload_n dX6_read_4 0 rfl ?_
    refine aw_aload_n dX6_read_5 0 rfl ?_
    refine aw_getI dX6_read_6 fl_X6_366 (((sT_ftM M L).TR hT).s 0 (by decide)) (((sT_ftM M L).TR hT).n 0 (by decide)) ?_
    refine aw_topE ((ftM_0 M L (by decide)).trans hp) ?_
    refine aw_callVx [.int (nI p)] [] hri dX6_read_9 ml_X6_372 im_X6_readsItem (((sT_ftM M L).TR hT).s 0 (by decide)) (((sT_ftM M L).TR hT).n 0 (by decide)) rfl rfl (dl1 (d := d) (by omega)) rfl rfl (Nat.le_of_ble_eq_true rfl) rfl rfl (Nat.zero_le _) (Nat.zero_le _) (fun r C1 hC => ?_)
    obtain ⟨rfl, hC⟩ := hC
    refine aw_cons ?_
    refine aw_istore_n [(1, .int (nI q)), (0, .ref 0)] dX6_read_12 (Nat.le_of_ble_eq_true rfl) rfl ?_
    refine aw_aload_n dX6_read_13 1 rfl ?_
    refine aw_getI dX6_read_14 fl_X6_283 ((hP C1 hC).1.s 0 (by decide)) ((hP C1 hC).1.n 0 (by decide)) ?_
    refine aw_topE (hP C1 hC).2.1 ?_
    refine aw_if_lt 31 dX6_read_17 (by decide) (fun c1 => ?_) (fun c1 => absurd (by decide) c1)
    refine aw_aload_n dX6_read_31 1 rfl ?_
    refine aw_getR (b := 1) dX6_read_32 fl_X6_7 rfl ((hP C1 hC).1.s 0 (by decide)) ((hP C1 hC).1.n 0 (by decide)) ((hP C1 hC).1.r 0) ?_
    refine aw_bipush (v := 12) dX6_read_35 (by decide) ?_
    refine aw_ialdN 12 dX6_read_37 ((hP C1 hC).1.s 1 (by decide)) ((hP C1 hC).1.n 1 (by decide)) rfl (by omega) (by first | decide | omega) ?_
    refine aw_topE (hP C1 hC).2.2.1 ?_
    refine aw_bipush (v := 13) dX6_read_38 (by decide) ?_
    refine aw_icmp_leN k 13 47 dX6_read_40 (by decide) rfl rfl (by omega) (by omega) (fun c2 => ?_) (fun c2 => absurd (by omega) c2)
    refine aw_aload_n dX6_read_47 1 rfl ?_
    refine aw_getI dX6_read_48 fl_X6_327 ((hP C1 hC).1.s 0 (by decide)) ((hP C1 hC).1.n 0 (by decide)) ?_
    refine aw_topE ((hP C1 hC).2.2.2.1 hk) ?_
    refine aw_istore_n [(2, .int (nI n)), (1, .int (nI q)), (0, .ref 0)] dX6_read_51 (Nat.le_of_ble_eq_true rfl) rfl ?_
    refine aw_bipush (v := 12) dX6_read_52 (by decide) ?_
    refine aw_aload_n dX6_read_54 2 rfl ?_
    refine aw_callVi [] [.int 12] (sp_X6_things (d := d - 1) (by omega) (hP C1 hC).1) dX6_read_55 ml_X6_173 im_X6_things ((hP C1 hC).1.s 0 (by decide)) ((hP C1 hC).1.n 0 (by decide)) rfl rfl (dl1 (d := d) (by omega)) rfl rfl (Nat.le_of_ble_eq_true rfl) rfl rfl (Nat.zero_le _) (Nat.zero_le _) ?_
    refine aw_topE (hP C1 hC).2.2.2.2 ?_
    refine aw_isubN 12 c dX6_read_58 rfl rfl (by omega) ?_
    refine aw_iload_n dX6_read_59 0 rfl ?_
    refine aw_icmp_geN (12 - c) n 71 dX6_read_60 (by decide) rfl rfl (by omega) (by omega) (fun c3 => ?_) (fun c3 => absurd (by omega) c3)
    refine aw_iconst (v := 0) dX6_read_71 (by decide) ?_
    refine aw_istore_n [(3, .int 0), (2, .int (nI n)), (1, .int (nI q)), (0, .ref 0)] dX6_read_72 (Nat.le_of_ble_eq_true rfl) rfl ?_
    refine aw_sub [0, 1, 3, 2] rfl ?_
    have g : AW (fX6_read d) 73 [(3, .int (nI 0)), (2, .int (nI n)), (0, .ref 0), (1, .int (nI q))] [] (flI C1 11 0 0 (fun k => nI (12 + k))) 0 0 (fun r B => r = some (.int (nI f)) ∧ ∃ D, Q D ∧ B = tX6_tells (stI D 0 7 (nI q)) 0 (-1)) := lp_mr (hP C1 hC).1 hn (tl C1 hC) n 0 (by omega)
    rw [flI_0] at g
    exact g
  · obtain rfl := hk1 hk
    refine aw_aload_n dX6_read_0 0 rfl ?_
    refine aw_callVv [] [] (sp_ft (d := d - 1) hT hl bl) dX6_read_1 ml_X6_369 im_X6_fromTape (hT.s 0 (by decide)) (hT.n 0 (by decide)) rfl rfl (dl1 (d := d) (by omega)) rfl rfl (Nat.le_of_ble_eq_true rfl) rfl rfl (Nat.zero_le _) (Nat.zero_le _) ?_
    refine aw_aload_n dX6_read_4 0 rfl ?_
    refine aw_aload_n dX6_read_5 0 rfl ?_
    refine aw_getI dX6_read_6 fl_X6_366 (((sT_ftM M L).TR hT).s 0 (by decide)) (((sT_ftM M L).TR hT).n 0 (by decide)) ?_
    refine aw_topE ((ftM_0 M L (by decide)).trans hp) ?_
    refine aw_callVx [.int (nI p)] [] hri dX6_read_9 ml_X6_372 im_X6_readsItem (((sT_ftM M L).TR hT).s 0 (by decide)) (((sT_ftM M L).TR hT).n 0 (by decide)) rfl rfl (dl1 (d := d) (by omega)) rfl rfl (Nat.le_of_ble_eq_true rfl) rfl rfl (Nat.zero_le _) (Nat.zero_le _) (fun r C1 hC => ?_)
    obtain ⟨rfl, hC⟩ := hC
    refine aw_cons ?_
    refine aw_istore_n [(1, .int (nI q)), (0, .ref 0)] dX6_read_12 (Nat.le_of_ble_eq_true rfl) rfl ?_
    refine aw_aload_n dX6_read_13 1 rfl ?_
    refine aw_getI dX6_read_14 fl_X6_283 ((hP C1 hC).1.s 0 (by decide)) ((hP C1 hC).1.n 0 (by decide)) ?_
    refine aw_topE (hP C1 hC).2.1 ?_
    refine aw_if_lt 31 dX6_read_17 (by decide) (fun c1 => ?_) (fun c1 => absurd (by decide) c1)
    refine aw_aload_n dX6_read_31 1 rfl ?_
    refine aw_getR (b := 1) dX6_read_32 fl_X6_7 rfl ((hP C1 hC).1.s 0 (by decide)) ((hP C1 hC).1.n 0 (by decide)) ((hP C1 hC).1.r 0) ?_
    refine aw_bipush (v := 12) dX6_read_35 (by decide) ?_
    refine aw_ialdN 12 dX6_read_37 ((hP C1 hC).1.s 1 (by decide)) ((hP C1 hC).1.n 1 (by decide)) rfl (by omega) (by first | decide | omega) ?_
    refine aw_topE (hP C1 hC).2.2.1 ?_
    refine aw_bipush (v := 13) dX6_read_38 (by decide) ?_
    refine aw_icmp_leN k 13 47 dX6_read_40 (by decide) rfl rfl (by omega) (by omega) (fun c2 => absurd c2 (by omega)) (fun c2 => ?_)
    refine aw_iconst (v := 1) dX6_read_43 (by decide) ?_
    refine aw_goto 51 dX6_read_44 (by decide) ?_
    refine aw_istore_n [(2, .int 1), (1, .int (nI q)), (0, .ref 0)] dX6_read_51 (Nat.le_of_ble_eq_true rfl) rfl ?_
    refine aw_bipush (v := 12) dX6_read_52 (by decide) ?_
    refine aw_aload_n dX6_read_54 2 rfl ?_
    refine aw_callVi [] [.int 12] (sp_X6_things (d := d - 1) (by omega) (hP C1 hC).1) dX6_read_55 ml_X6_173 im_X6_things ((hP C1 hC).1.s 0 (by decide)) ((hP C1 hC).1.n 0 (by decide)) rfl rfl (dl1 (d := d) (by omega)) rfl rfl (Nat.le_of_ble_eq_true rfl) rfl rfl (Nat.zero_le _) (Nat.zero_le _) ?_
    refine aw_topE (hP C1 hC).2.2.2.2 ?_
    refine aw_isubN 12 c dX6_read_58 rfl rfl (by omega) ?_
    refine aw_iload_n dX6_read_59 0 rfl ?_
    refine aw_icmp_geN (12 - c) 1 71 dX6_read_60 (by decide) rfl rfl (by omega) (by omega) (fun c3 => ?_) (fun c3 => absurd (by omega) c3)
    refine aw_iconst (v := 0) dX6_read_71 (by decide) ?_
    refine aw_istore_n [(3, .int 0), (2, .int 1), (1, .int (nI q)), (0, .ref 0)] dX6_read_72 (Nat.le_of_ble_eq_true rfl) rfl ?_
    refine aw_sub [0, 1, 3, 2] rfl ?_
    have g : AW (fX6_read d) 73 [(3, .int (nI 0)), (2, .int (nI 1)), (0, .ref 0), (1, .int (nI q))] [] (flI C1 11 0 0 (fun k => nI (12 + k))) 0 0 (fun r B => r = some (.int (nI f)) ∧ ∃ D, Q D ∧ B = tX6_tells (stI D 0 7 (nI q)) 0 (-1)) := lp_mr (hP C1 hC).1 hn (tl C1 hC) 1 0 (by omega)
    rw [flI_0] at g
    exact g
theorem sp_X5_twin_e {d : Nat} (hd : 60 ≤ d) {M : xM} (x1 : Int32) (hT : TC M) (he : ¬ sX5_slotError M x1 = 0) : Sp (fX5_twin d) [.ref 0, .int x1] M (dt (some (.int (sX5_slotError M x1))) M) := by
  refine Sp.of pn_X5 (Nat.le_of_ble_eq_true rfl) (fun h => Bool.noConfusion h) ?_
  refine aw_aload_n dX5_twin_0 0 rfl ?_
  refine aw_iload_n dX5_twin_1 1 rfl ?_
  refine aw_callVi [.int x1] [] (sp_X5_slotError (d := d - 1) (by omega) x1 hT) dX5_twin_2 ml_X5_94 im_X5_slotError (hT.s 0 (by decide)) (hT.n 0 (by decide)) rfl rfl (dl1 (d := d) (by omega)) rfl rfl (Nat.le_of_ble_eq_true rfl) rfl rfl (Nat.zero_le _) (Nat.zero_le _) ?_
  refine aw_istore_n [(2, .int (sX5_slotError M x1)), (0, .ref 0), (1, .int x1)] dX5_twin_5 (Nat.le_of_ble_eq_true rfl) rfl ?_
  refine aw_iload_n dX5_twin_6 0 rfl ?_
  refine aw_if_eq 12 dX5_twin_7 (by decide) (fun c1 => absurd c1 he) (fun c1 => ?_)
  refine aw_iload_n dX5_twin_10 0 rfl ?_
  refine aw_iret dX5_twin_11 rfl (Nat.zero_le _) (Nat.zero_le _) ?_
  exact ⟨rfl, rfl⟩
theorem sp_X5_twin_k {d : Nat} (hd : 60 ≤ d) {M : xM} {M1 : xM} {P Q : xM → Prop} {t : Nat} {x : Int32} (hT : TC M) (he : sX5_slotError M (nI t) = 0) (hw : Sp (fX4_write (d - 1)) [.ref 46, .int (nI t), .int (nI 0)] M (dt none M1)) (hT1 : TC M1) (hti : Sp (fX1_takeItem (d - 1)) [.ref 8, .ref 4, .int (nI 0)] M1 (fun r A => r = some (.int 1) ∧ P A)) (hP : ∀ A, P A → TC A) (hst : ∀ A, P A → Sp (fX5_settle (d - 1)) [.ref 0] A (fun r B => r = some (.int x) ∧ Q B)) : Sp (fX5_twin d) [.ref 0, .int (nI t)] M (fun r B => r = some (.int x) ∧ Q B) := by
  refine Sp.of pn_X5 (Nat.le_of_ble_eq_true rfl) (fun h => Bool.noConfusion h) ?_
  refine aw_aload_n dX5_twin_0 0 rfl ?_
  refine aw_iload_n dX5_twin_1 1 rfl ?_
  refine aw_callVi [.int (nI t)] [] (sp_X5_slotError (d := d - 1) (by omega) (nI t) hT) dX5_twin_2 ml_X5_94 im_X5_slotError (hT.s 0 (by decide)) (hT.n 0 (by decide)) rfl rfl (dl1 (d := d) (by omega)) rfl rfl (Nat.le_of_ble_eq_true rfl) rfl rfl (Nat.zero_le _) (Nat.zero_le _) ?_
  refine aw_topE he ?_
  refine aw_istore_n [(2, .int 0), (0, .ref 0), (1, .int (nI t))] dX5_twin_5 (Nat.le_of_ble_eq_true rfl) rfl ?_
  refine aw_iload_n dX5_twin_6 0 rfl ?_
  refine aw_if_eq 12 dX5_twin_7 (by decide) (fun c1 => ?_) (fun c1 => absurd rfl c1)
  refine aw_aload_n dX5_twin_12 1 rfl ?_
  refine aw_getR (b := 46) dX5_twin_13 fl_X5_44 rfl (hT.s 0 (by decide)) (hT.n 0 (by decide)) (hT.r 0 5 (by decide) (by decide)) ?_
  refine aw_iload_n dX5_twin_16 2 rfl ?_
  refine aw_iconst (v := 0) dX5_twin_17 (by decide) ?_
  refine aw_callVv [.int (nI t), .int 0] [] hw dX5_twin_18 ml_X5_219 im_X4_write (hT.s 46 (by decide)) (hT.n 46 (by decide)) rfl rfl (dl1 (d := d) (by omega)) rfl rfl (Nat.le_of_ble_eq_true rfl) rfl rfl (Nat.zero_le _) (Nat.zero_le _) ?_
  refine aw_aload_n dX5_twin_21 1 rfl ?_
  refine aw_getR (b := 8) dX5_twin_22 fl_X5_35 rfl (hT1.s 0 (by decide)) (hT1.n 0 (by decide)) (hT1.r 0 4 (by decide) (by decide)) ?_
  refine aw_aload_n dX5_twin_25 1 rfl ?_
  refine aw_getR (b := 4) dX5_twin_26 fl_X5_24 rfl (hT1.s 0 (by decide)) (hT1.n 0 (by decide)) (hT1.r 0 2 (by decide) (by decide)) ?_
  refine aw_iconst (v := 0) dX5_twin_29 (by decide) ?_
  refine aw_callVx [.ref 4, .int 0] [] hti dX5_twin_30 ml_X5_238 im_X1_takeItem (hT1.s 8 (by decide)) (hT1.n 8 (by decide)) rfl rfl (dl1 (d := d) (by omega)) rfl rfl (Nat.le_of_ble_eq_true rfl) rfl rfl (Nat.zero_le _) (Nat.zero_le _) (fun r A1 hA => ?_)
  obtain ⟨rfl, hA⟩ := hA
  refine aw_cons ?_
  refine aw_if_eq 43 dX5_twin_33 (by decide) (fun c2 => absurd c2 (by decide)) (fun c2 => ?_)
  refine aw_aload_n dX5_twin_36 1 rfl ?_
  refine aw_callVx [] [] (hst A1 hA) dX5_twin_37 ml_X5_248 im_X5_settle ((hP A1 hA).s 0 (by decide)) ((hP A1 hA).n 0 (by decide)) rfl rfl (dl1 (d := d) (by omega)) rfl rfl (Nat.le_of_ble_eq_true rfl) rfl rfl (Nat.zero_le _) (Nat.zero_le _) (fun r B1 hB => ?_)
  obtain ⟨rfl, hB⟩ := hB
  refine aw_cons ?_
  refine aw_goto 45 dX5_twin_40 (by decide) ?_
  refine aw_iret dX5_twin_45 rfl (Nat.zero_le _) (Nat.zero_le _) ?_
  exact ⟨rfl, hB⟩
theorem sp_X6_twin_b {d : Nat} (hd : 60 ≤ d) {M : xM} (x1 : Int32) (hT : TR M) (hs : sX6_isThing x1.toInt64 = false) : Sp (fX6_twin d) [.ref 0, .int x1] M (dt (some (.int (-1))) M) := by
  refine Sp.of pn_X6 (Nat.le_of_ble_eq_true rfl) (fun h => Bool.noConfusion h) ?_
  refine aw_iload_n dX6_twin_0 1 rfl ?_
  refine aw_i2l dX6_twin_1 ?_
  refine aw_callSi [.long (Int32.toInt64 x1)] [] (sp_X6_isThing (d := d - 1) (by omega) (Int32.toInt64 x1) ) dX6_twin_2 ml_X6_159 sm_X6_isThing rfl (dl1 (d := d) (by omega)) rfl rfl (Nat.le_of_ble_eq_true rfl) rfl rfl (Nat.zero_le _) (Nat.zero_le _) ?_
  refine aw_if_ne 10 dX6_twin_5 (by decide) (fun c1 => absurd (bz_0.mpr hs) c1) (fun c1 => ?_)
  refine aw_iconst (v := -1) dX6_twin_8 (by decide) ?_
  refine aw_iret dX6_twin_9 rfl (Nat.zero_le _) (Nat.zero_le _) ?_
  exact ⟨rfl, rfl⟩
theorem sp_X6_twin_e {d : Nat} (hd : 60 ≤ d) {M : xM} (t : Nat) (hT : TR M) (ht : t < 12) (hs : sX6_isThing (lN t) = true) (hk : mI M 1 t = -1) : Sp (fX6_twin d) [.ref 0, .int (nI t)] M (dt (some (.int (-5))) M) := by
  refine Sp.of pn_X6 (Nat.le_of_ble_eq_true rfl) (fun h => Bool.noConfusion h) ?_
  refine aw_iload_n dX6_twin_0 1 rfl ?_
  refine aw_i2lN t dX6_twin_1 rfl (by omega) ?_
  refine aw_callSi [.long (lN t)] [] (sp_X6_isThing (d := d - 1) (by omega) (lN t) ) dX6_twin_2 ml_X6_159 sm_X6_isThing rfl (dl1 (d := d) (by omega)) rfl rfl (Nat.le_of_ble_eq_true rfl) rfl rfl (Nat.zero_le _) (Nat.zero_le _) ?_
  refine aw_if_ne 10 dX6_twin_5 (by decide) (fun c1 => ?_) (fun c1 => absurd c1 (bz_n0.mpr hs))
  refine aw_aload_n dX6_twin_10 0 rfl ?_
  refine aw_getR (b := 1) dX6_twin_11 fl_X6_7 rfl (hT.s 0 (by decide)) (hT.n 0 (by decide)) (hT.r 0) ?_
  refine aw_iload_n dX6_twin_14 1 rfl ?_
  refine aw_ialdN t dX6_twin_15 (hT.s 1 (by decide)) (hT.n 1 (by decide)) rfl (by omega) (by first | decide | omega) ?_
  refine aw_topE hk ?_
  refine aw_if_ge 22 dX6_twin_16 (by decide) (fun c2 => absurd c2 (by decide)) (fun c2 => ?_)
  refine aw_bipush (v := -5) dX6_twin_19 (by decide) ?_
  refine aw_iret dX6_twin_21 rfl (Nat.zero_le _) (Nat.zero_le _) ?_
  exact ⟨rfl, rfl⟩
theorem sp_X6_twin_au {d : Nat} (hd : 60 ≤ d) {M : xM} {t k c n : Nat} (hT : TR M) (ht : t < 12) (hs : sX6_isThing (lN t) = true) (hk : mI M 1 t = nI k) (hk2 : k < 16) (hc2 : c ≤ 12) (hn : n ≤ 12) (hk13 : k ≤ 13) {P : xM → Prop} {x : Int32} (hla : Sp (fX6_laysAll (d - 1)) [.ref 0, .int (nI t), .int (nI 0)] M (fun r A => r = some (.int x) ∧ P A)) (hP : ∀ A, P A → TR A ∧ mI A 0 17 = nI n ∧ sX6_things A = nI c) (hf : 12 - c < n) : Sp (fX6_twin d) [.ref 0, .int (nI t)] M (fun r B => r = some (.int (-3)) ∧ P B) := by
  refine Sp.of pn_X6 (Nat.le_of_ble_eq_true rfl) (fun h => Bool.noConfusion h) ?_
  refine aw_iload_n dX6_twin_0 1 rfl ?_
  refine aw_i2lN t dX6_twin_1 rfl (by omega) ?_
  refine aw_callSi [.long (lN t)] [] (sp_X6_isThing (d := d - 1) (by omega) (lN t) ) dX6_twin_2 ml_X6_159 sm_X6_isThing rfl (dl1 (d := d) (by omega)) rfl rfl (Nat.le_of_ble_eq_true rfl) rfl rfl (Nat.zero_le _) (Nat.zero_le _) ?_
  refine aw_if_ne 10 dX6_twin_5 (by decide) (fun c1 => ?_) (fun c1 => absurd c1 (bz_n0.mpr hs))
  refine aw_aload_n dX6_twin_10 0 rfl ?_
  refine aw_getR (b := 1) dX6_twin_11 fl_X6_7 rfl (hT.s 0 (by decide)) (hT.n 0 (by decide)) (hT.r 0) ?_
  refine aw_iload_n dX6_twin_14 1 rfl ?_
  refine aw_ialdN t dX6_twin_15 (hT.s 1 (by decide)) (hT.n 1 (by decide)) rfl (by omega) (by first | decide | omega) ?_
  refine aw_topE hk ?_
  refine aw_if_ge 22 dX6_twin_16 (by decide) (fun c2 => ?_) (fun c2 => absurd (Int32.not_lt.mp (nI_nn (by omega))) c2)
  refine aw_aload_n dX6_twin_22 0 rfl ?_
  refine aw_getR (b := 1) dX6_twin_23 fl_X6_7 rfl (hT.s 0 (by decide)) (hT.n 0 (by decide)) (hT.r 0) ?_
  refine aw_iload_n dX6_twin_26 1 rfl ?_
  refine aw_ialdN t dX6_twin_27 (hT.s 1 (by decide)) (hT.n 1 (by decide)) rfl (by omega) (by first | decide | omega) ?_
  refine aw_topE hk ?_
  refine aw_bipush (v := 13) dX6_twin_28 (by decide) ?_
  refine aw_icmp_leN k 13 48 dX6_twin_30 (by decide) rfl rfl (by omega) (by omega) (fun c3 => ?_) (fun c3 => absurd (by omega) c3)
  refine aw_aload_n dX6_twin_48 0 rfl ?_
  refine aw_iload_n dX6_twin_49 1 rfl ?_
  refine aw_iconst (v := 0) dX6_twin_50 (by decide) ?_
  refine aw_callVx [.int (nI t), .int 0] [] hla dX6_twin_51 ml_X6_360 im_X6_laysAll (hT.s 0 (by decide)) (hT.n 0 (by decide)) rfl rfl (dl1 (d := d) (by omega)) rfl rfl (Nat.le_of_ble_eq_true rfl) rfl rfl (Nat.zero_le _) (Nat.zero_le _) (fun r A1 hA => ?_)
  obtain ⟨rfl, hA⟩ := hA
  refine aw_cons ?_
  refine aw_pop dX6_twin_54 rfl ?_
  refine aw_bipush (v := 12) dX6_twin_55 (by decide) ?_
  refine aw_aload_n dX6_twin_57 0 rfl ?_
  refine aw_callVi [] [.int 12] (sp_X6_things (d := d - 1) (by omega) (hP A1 hA).1) dX6_twin_58 ml_X6_173 im_X6_things ((hP A1 hA).1.s 0 (by decide)) ((hP A1 hA).1.n 0 (by decide)) rfl rfl (dl1 (d := d) (by omega)) rfl rfl (Nat.le_of_ble_eq_true rfl) rfl rfl (Nat.zero_le _) (Nat.zero_le _) ?_
  refine aw_topE (hP A1 hA).2.2 ?_
  refine aw_isubN 12 c dX6_twin_61 rfl rfl (by omega) ?_
  refine aw_aload_n dX6_twin_62 0 rfl ?_
  refine aw_getI dX6_twin_63 fl_X6_261 ((hP A1 hA).1.s 0 (by decide)) ((hP A1 hA).1.n 0 (by decide)) ?_
  refine aw_topE (hP A1 hA).2.1 ?_
  refine aw_icmp_geN (12 - c) n 74 dX6_twin_66 (by decide) rfl rfl (by omega) (by omega) (fun c4 => absurd c4 (by omega)) (fun c4 => ?_)
  refine aw_bipush (v := -3) dX6_twin_69 (by decide) ?_
  refine aw_goto 86 dX6_twin_71 (by decide) ?_
  refine aw_iret dX6_twin_86 rfl (Nat.zero_le _) (Nat.zero_le _) ?_
  exact ⟨rfl, hA⟩
theorem sp_X6_twin_ak {d : Nat} (hd : 60 ≤ d) {M : xM} {t k c n : Nat} (hT : TR M) (ht : t < 12) (hs : sX6_isThing (lN t) = true) (hk : mI M 1 t = nI k) (hk2 : k < 16) (hc2 : c ≤ 12) (hn : n ≤ 12) (hk13 : k ≤ 13) {P : xM → Prop} {x : Int32} (hla : Sp (fX6_laysAll (d - 1)) [.ref 0, .int (nI t), .int (nI 0)] M (fun r A => r = some (.int x) ∧ P A)) (hP : ∀ A, P A → TR A ∧ mI A 0 17 = nI n ∧ sX6_things A = nI c) {Q : xM → Prop} {y : Int32} (hnw : ∀ A, P A → Sp (fX6_news (d - 1)) [.ref 0, .ref 11, .int (nI n)] A (fun r D => r = some (.int y) ∧ Q D)) (hf : n ≤ 12 - c) : Sp (fX6_twin d) [.ref 0, .int (nI t)] M (fun r B => r = some (.int y) ∧ Q B) := by
  refine Sp.of pn_X6 (Nat.le_of_ble_eq_true rfl) (fun h => Bool.noConfusion h) ?_
  refine aw_iload_n dX6_twin_0 1 rfl ?_
  refine aw_i2lN t dX6_twin_1 rfl (by omega) ?_
  refine aw_callSi [.long (lN t)] [] (sp_X6_isThing (d := d - 1) (by omega) (lN t) ) dX6_twin_2 ml_X6_159 sm_X6_isThing rfl (dl1 (d := d) (by omega)) rfl rfl (Nat.le_of_ble_eq_true rfl) rfl rfl (Nat.zero_le _) (Nat.zero_le _) ?_
  refine aw_if_ne 10 dX6_twin_5 (by decide) (fun c1 => ?_) (fun c1 => absurd c1 (bz_n0.mpr hs))
  refine aw_aload_n dX6_twin_10 0 rfl ?_
  refine aw_getR (b := 1) dX6_twin_11 fl_X6_7 rfl (hT.s 0 (by decide)) (hT.n 0 (by decide)) (hT.r 0) ?_
  refine aw_iload_n dX6_twin_14 1 rfl ?_
  refine aw_ialdN t dX6_twin_15 (hT.s 1 (by decide)) (hT.n 1 (by decide)) rfl (by omega) (by first | decide | omega) ?_
  refine aw_topE hk ?_
  refine aw_if_ge 22 dX6_twin_16 (by decide) (fun c2 => ?_) (fun c2 => absurd (Int32.not_lt.mp (nI_nn (by omega))) c2)
  refine aw_aload_n dX6_twin_22 0 rfl ?_
  refine aw_getR (b := 1) dX6_twin_23 fl_X6_7 rfl (hT.s 0 (by decide)) (hT.n 0 (by decide)) (hT.r 0) ?_
  refine aw_iload_n dX6_twin_26 1 rfl ?_
  refine aw_ialdN t dX6_twin_27 (hT.s 1 (by decide)) (hT.n 1 (by decide)) rfl (by omega) (by first | decide | omega) ?_
  refine aw_topE hk ?_
  refine aw_bipush (v := 13) dX6_twin_28 (by decide) ?_
  refine aw_icmp_leN k 13 48 dX6_twin_30 (by decide) rfl rfl (by omega) (by omega) (fun c3 => ?_) (fun c3 => absurd (by omega) c3)
  refine aw_aload_n dX6_twin_48 0 rfl ?_
  refine aw_iload_n dX6_twin_49 1 rfl ?_
  refine aw_iconst (v := 0) dX6_twin_50 (by decide) ?_
  refine aw_callVx [.int (nI t), .int 0] [] hla dX6_twin_51 ml_X6_360 im_X6_laysAll (hT.s 0 (by decide)) (hT.n 0 (by decide)) rfl rfl (dl1 (d := d) (by omega)) rfl rfl (Nat.le_of_ble_eq_true rfl) rfl rfl (Nat.zero_le _) (Nat.zero_le _) (fun r A1 hA => ?_)
  obtain ⟨rfl, hA⟩ := hA
  refine aw_cons ?_
  refine aw_pop dX6_twin_54 rfl ?_
  refine aw_bipush (v := 12) dX6_twin_55 (by decide) ?_
  refine aw_aload_n dX6_twin_57 0 rfl ?_
  refine aw_callVi [] [.int 12] (sp_X6_things (d := d - 1) (by omega) (hP A1 hA).1) dX6_twin_58 ml_X6_173 im_X6_things ((hP A1 hA).1.s 0 (by decide)) ((hP A1 hA).1.n 0 (by decide)) rfl rfl (dl1 (d := d) (by omega)) rfl rfl (Nat.le_of_ble_eq_true rfl) rfl rfl (Nat.zero_le _) (Nat.zero_le _) ?_
  refine aw_topE (hP A1 hA).2.2 ?_
  refine aw_isubN 12 c dX6_twin_61 rfl rfl (by omega) ?_
  refine aw_aload_n dX6_twin_62 0 rfl ?_
  refine aw_getI dX6_twin_63 fl_X6_261 ((hP A1 hA).1.s 0 (by decide)) ((hP A1 hA).1.n 0 (by decide)) ?_
  refine aw_topE (hP A1 hA).2.1 ?_
  refine aw_icmp_geN (12 - c) n 74 dX6_twin_66 (by decide) rfl rfl (by omega) (by omega) (fun c4 => ?_) (fun c4 => absurd (by omega) c4)
  refine aw_aload_n dX6_twin_74 0 rfl ?_
  refine aw_aload_n dX6_twin_75 0 rfl ?_
  refine aw_getR (b := 11) dX6_twin_76 fl_X6_45 rfl ((hP A1 hA).1.s 0 (by decide)) ((hP A1 hA).1.n 0 (by decide)) ((hP A1 hA).1.r 18) ?_
  refine aw_aload_n dX6_twin_79 0 rfl ?_
  refine aw_getI dX6_twin_80 fl_X6_261 ((hP A1 hA).1.s 0 (by decide)) ((hP A1 hA).1.n 0 (by decide)) ?_
  refine aw_topE (hP A1 hA).2.1 ?_
  refine aw_callVx [.ref 11, .int (nI n)] [] (hnw A1 hA) dX6_twin_83 ml_X6_375 im_X6_news ((hP A1 hA).1.s 0 (by decide)) ((hP A1 hA).1.n 0 (by decide)) rfl rfl (dl1 (d := d) (by omega)) rfl rfl (Nat.le_of_ble_eq_true rfl) rfl rfl (Nat.zero_le _) (Nat.zero_le _) (fun r D1 hD => ?_)
  obtain ⟨rfl, hD⟩ := hD
  refine aw_cons ?_
  refine aw_iret dX6_twin_86 rfl (Nat.zero_le _) (Nat.zero_le _) ?_
  exact ⟨rfl, hD⟩
theorem sp_X6_twin_tu {d : Nat} (hd : 60 ≤ d) {M : xM} {t k c : Nat} (hT : TR M) (ht : t < 12) (hs : sX6_isThing (lN t) = true) (hk : mI M 1 t = nI k) (hk2 : k < 16) (hc2 : c ≤ 12) (hk13 : ¬ k ≤ 13) (hc : sX6_things (stI (stI M 11 0 (nI t)) 0 17 1) = nI c) (hf : 12 - c < 1) : Sp (fX6_twin d) [.ref 0, .int (nI t)] M (dt (some (.int (-3))) (stI (stI M 11 0 (nI t)) 0 17 1)) := by
  refine Sp.of pn_X6 (Nat.le_of_ble_eq_true rfl) (fun h => Bool.noConfusion h) ?_
  refine aw_iload_n dX6_twin_0 1 rfl ?_
  refine aw_i2lN t dX6_twin_1 rfl (by omega) ?_
  refine aw_callSi [.long (lN t)] [] (sp_X6_isThing (d := d - 1) (by omega) (lN t) ) dX6_twin_2 ml_X6_159 sm_X6_isThing rfl (dl1 (d := d) (by omega)) rfl rfl (Nat.le_of_ble_eq_true rfl) rfl rfl (Nat.zero_le _) (Nat.zero_le _) ?_
  refine aw_if_ne 10 dX6_twin_5 (by decide) (fun c1 => ?_) (fun c1 => absurd c1 (bz_n0.mpr hs))
  refine aw_aload_n dX6_twin_10 0 rfl ?_
  refine aw_getR (b := 1) dX6_twin_11 fl_X6_7 rfl (hT.s 0 (by decide)) (hT.n 0 (by decide)) (hT.r 0) ?_
  refine aw_iload_n dX6_twin_14 1 rfl ?_
  refine aw_ialdN t dX6_twin_15 (hT.s 1 (by decide)) (hT.n 1 (by decide)) rfl (by omega) (by first | decide | omega) ?_
  refine aw_topE hk ?_
  refine aw_if_ge 22 dX6_twin_16 (by decide) (fun c2 => ?_) (fun c2 => absurd (Int32.not_lt.mp (nI_nn (by omega))) c2)
  refine aw_aload_n dX6_twin_22 0 rfl ?_
  refine aw_getR (b := 1) dX6_twin_23 fl_X6_7 rfl (hT.s 0 (by decide)) (hT.n 0 (by decide)) (hT.r 0) ?_
  refine aw_iload_n dX6_twin_26 1 rfl ?_
  refine aw_ialdN t dX6_twin_27 (hT.s 1 (by decide)) (hT.n 1 (by decide)) rfl (by omega) (by first | decide | omega) ?_
  refine aw_topE hk ?_
  refine aw_bipush (v := 13) dX6_twin_28 (by decide) ?_
  refine aw_icmp_leN k 13 48 dX6_twin_30 (by decide) rfl rfl (by omega) (by omega) (fun c3 => absurd c3 (by omega)) (fun c3 => ?_)
  refine aw_aload_n dX6_twin_33 0 rfl ?_
  refine aw_getR (b := 11) dX6_twin_34 fl_X6_45 rfl (hT.s 0 (by decide)) (hT.n 0 (by decide)) (hT.r 18) ?_
  refine aw_iconst (v := 0) dX6_twin_37 (by decide) ?_
  refine aw_iload_n dX6_twin_38 1 rfl ?_
  refine aw_iastN 0 dX6_twin_39 (hT.s 11 (by decide)) (hT.n 11 (by decide)) rfl (by omega) (by first | decide | omega) ?_
  refine aw_aload_n dX6_twin_40 0 rfl ?_
  refine aw_iconst (v := 1) dX6_twin_41 (by decide) ?_
  refine aw_putI dX6_twin_42 fl_X6_261 (Or.inl rfl) (((show sT M (stI M 11 0 (nI t)) from ⟨rfl, rfl, rfl⟩).TR hT).s 0 (by decide)) (((show sT M (stI M 11 0 (nI t)) from ⟨rfl, rfl, rfl⟩).TR hT).n 0 (by decide)) ?_
  refine aw_goto 55 dX6_twin_45 (by decide) ?_
  refine aw_bipush (v := 12) dX6_twin_55 (by decide) ?_
  refine aw_aload_n dX6_twin_57 0 rfl ?_
  refine aw_callVi [] [.int 12] (sp_X6_things (d := d - 1) (by omega) ((show sT M (stI (stI M 11 0 (nI t)) 0 17 1) from ⟨rfl, rfl, rfl⟩).TR hT)) dX6_twin_58 ml_X6_173 im_X6_things (((show sT M (stI (stI M 11 0 (nI t)) 0 17 1) from ⟨rfl, rfl, rfl⟩).TR hT).s 0 (by decide)) (((show sT M (stI (stI M 11 0 (nI t)) 0 17 1) from ⟨rfl, rfl, rfl⟩).TR hT).n 0 (by decide)) rfl rfl (dl1 (d := d) (by omega)) rfl rfl (Nat.le_of_ble_eq_true rfl) rfl rfl (Nat.zero_le _) (Nat.zero_le _) ?_
  refine aw_topE hc ?_
  refine aw_isubN 12 c dX6_twin_61 rfl rfl (by omega) ?_
  refine aw_aload_n dX6_twin_62 0 rfl ?_
  refine aw_getI dX6_twin_63 fl_X6_261 (((show sT M (stI (stI M 11 0 (nI t)) 0 17 1) from ⟨rfl, rfl, rfl⟩).TR hT).s 0 (by decide)) (((show sT M (stI (stI M 11 0 (nI t)) 0 17 1) from ⟨rfl, rfl, rfl⟩).TR hT).n 0 (by decide)) ?_
  refine aw_topE (mI_stI_v (stI M 11 0 (nI t)) 0 17 (nI 1)) ?_
  refine aw_icmp_geN (12 - c) 1 74 dX6_twin_66 (by decide) rfl rfl (by omega) (by omega) (fun c4 => absurd c4 (by omega)) (fun c4 => ?_)
  refine aw_bipush (v := -3) dX6_twin_69 (by decide) ?_
  refine aw_goto 86 dX6_twin_71 (by decide) ?_
  refine aw_iret dX6_twin_86 rfl (Nat.zero_le _) (Nat.zero_le _) ?_
  exact ⟨rfl, rfl⟩
theorem sp_X6_twin_tk {d : Nat} (hd : 60 ≤ d) {M : xM} {t k c : Nat} (hT : TR M) (ht : t < 12) (hs : sX6_isThing (lN t) = true) (hk : mI M 1 t = nI k) (hk2 : k < 16) (hc2 : c ≤ 12) (hk13 : ¬ k ≤ 13) (hc : sX6_things (stI (stI M 11 0 (nI t)) 0 17 1) = nI c) {Q : xM → Prop} {y : Int32} (hnw : Sp (fX6_news (d - 1)) [.ref 0, .ref 11, .int (nI 1)] (stI (stI M 11 0 (nI t)) 0 17 1) (fun r D => r = some (.int y) ∧ Q D)) (hf : 1 ≤ 12 - c) : Sp (fX6_twin d) [.ref 0, .int (nI t)] M (fun r B => r = some (.int y) ∧ Q B) := by
  refine Sp.of pn_X6 (Nat.le_of_ble_eq_true rfl) (fun h => Bool.noConfusion h) ?_
  refine aw_iload_n dX6_twin_0 1 rfl ?_
  refine aw_i2lN t dX6_twin_1 rfl (by omega) ?_
  refine aw_callSi [.long (lN t)] [] (sp_X6_isThing (d := d - 1) (by omega) (lN t) ) dX6_twin_2 ml_X6_159 sm_X6_isThing rfl (dl1 (d := d) (by omega)) rfl rfl (Nat.le_of_ble_eq_true rfl) rfl rfl (Nat.zero_le _) (Nat.zero_le _) ?_
  refine aw_if_ne 10 dX6_twin_5 (by decide) (fun c1 => ?_) (fun c1 => absurd c1 (bz_n0.mpr hs))
  refine aw_aload_n dX6_twin_10 0 rfl ?_
  refine aw_getR (b := 1) dX6_twin_11 fl_X6_7 rfl (hT.s 0 (by decide)) (hT.n 0 (by decide)) (hT.r 0) ?_
  refine aw_iload_n dX6_twin_14 1 rfl ?_
  refine aw_ialdN t dX6_twin_15 (hT.s 1 (by decide)) (hT.n 1 (by decide)) rfl (by omega) (by first | decide | omega) ?_
  refine aw_topE hk ?_
  refine aw_if_ge 22 dX6_twin_16 (by decide) (fun c2 => ?_) (fun c2 => absurd (Int32.not_lt.mp (nI_nn (by omega))) c2)
  refine aw_aload_n dX6_twin_22 0 rfl ?_
  refine aw_getR (b := 1) dX6_twin_23 fl_X6_7 rfl (hT.s 0 (by decide)) (hT.n 0 (by decide)) (hT.r 0) ?_
  refine aw_iload_n dX6_twin_26 1 rfl ?_
  refine aw_ialdN t dX6_twin_27 (hT.s 1 (by decide)) (hT.n 1 (by decide)) rfl (by omega) (by first | decide | omega) ?_
  refine aw_topE hk ?_
  refine aw_bipush (v := 13) dX6_twin_28 (by decide) ?_
  refine aw_icmp_leN k 13 48 dX6_twin_30 (by decide) rfl rfl (by omega) (by omega) (fun c3 => absurd c3 (by omega)) (fun c3 => ?_)
  refine aw_aload_n dX6_twin_33 0 rfl ?_
  refine aw_getR (b := 11) dX6_twin_34 fl_X6_45 rfl (hT.s 0 (by decide)) (hT.n 0 (by decide)) (hT.r 18) ?_
  refine aw_iconst (v := 0) dX6_twin_37 (by decide) ?_
  refine aw_iload_n dX6_twin_38 1 rfl ?_
  refine aw_iastN 0 dX6_twin_39 (hT.s 11 (by decide)) (hT.n 11 (by decide)) rfl (by omega) (by first | decide | omega) ?_
  refine aw_aload_n dX6_twin_40 0 rfl ?_
  refine aw_iconst (v := 1) dX6_twin_41 (by decide) ?_
  refine aw_putI dX6_twin_42 fl_X6_261 (Or.inl rfl) (((show sT M (stI M 11 0 (nI t)) from ⟨rfl, rfl, rfl⟩).TR hT).s 0 (by decide)) (((show sT M (stI M 11 0 (nI t)) from ⟨rfl, rfl, rfl⟩).TR hT).n 0 (by decide)) ?_
  refine aw_goto 55 dX6_twin_45 (by decide) ?_
  refine aw_bipush (v := 12) dX6_twin_55 (by decide) ?_
  refine aw_aload_n dX6_twin_57 0 rfl ?_
  refine aw_callVi [] [.int 12] (sp_X6_things (d := d - 1) (by omega) ((show sT M (stI (stI M 11 0 (nI t)) 0 17 1) from ⟨rfl, rfl, rfl⟩).TR hT)) dX6_twin_58 ml_X6_173 im_X6_things (((show sT M (stI (stI M 11 0 (nI t)) 0 17 1) from ⟨rfl, rfl, rfl⟩).TR hT).s 0 (by decide)) (((show sT M (stI (stI M 11 0 (nI t)) 0 17 1) from ⟨rfl, rfl, rfl⟩).TR hT).n 0 (by decide)) rfl rfl (dl1 (d := d) (by omega)) rfl rfl (Nat.le_of_ble_eq_true rfl) rfl rfl (Nat.zero_le _) (Nat.zero_le _) ?_
  refine aw_topE hc ?_
  refine aw_isubN 12 c dX6_twin_61 rfl rfl (by omega) ?_
  refine aw_aload_n dX6_twin_62 0 rfl ?_
  refine aw_getI dX6_twin_63 fl_X6_261 (((show sT M (stI (stI M 11 0 (nI t)) 0 17 1) from ⟨rfl, rfl, rfl⟩).TR hT).s 0 (by decide)) (((show sT M (stI (stI M 11 0 (nI t)) 0 17 1) from ⟨rfl, rfl, rfl⟩).TR hT).n 0 (by decide)) ?_
  refine aw_topE (mI_stI_v (stI M 11 0 (nI t)) 0 17 (nI 1)) ?_
  refine aw_icmp_geN (12 - c) 1 74 dX6_twin_66 (by decide) rfl rfl (by omega) (by omega) (fun c4 => ?_) (fun c4 => absurd (by omega) c4)
  refine aw_aload_n dX6_twin_74 0 rfl ?_
  refine aw_aload_n dX6_twin_75 0 rfl ?_
  refine aw_getR (b := 11) dX6_twin_76 fl_X6_45 rfl (((show sT M (stI (stI M 11 0 (nI t)) 0 17 1) from ⟨rfl, rfl, rfl⟩).TR hT).s 0 (by decide)) (((show sT M (stI (stI M 11 0 (nI t)) 0 17 1) from ⟨rfl, rfl, rfl⟩).TR hT).n 0 (by decide)) (((show sT M (stI (stI M 11 0 (nI t)) 0 17 1) from ⟨rfl, rfl, rfl⟩).TR hT).r 18) ?_
  refine aw_aload_n dX6_twin_79 0 rfl ?_
  refine aw_getI dX6_twin_80 fl_X6_261 (((show sT M (stI (stI M 11 0 (nI t)) 0 17 1) from ⟨rfl, rfl, rfl⟩).TR hT).s 0 (by decide)) (((show sT M (stI (stI M 11 0 (nI t)) 0 17 1) from ⟨rfl, rfl, rfl⟩).TR hT).n 0 (by decide)) ?_
  refine aw_topE (mI_stI_v (stI M 11 0 (nI t)) 0 17 (nI 1)) ?_
  refine aw_callVx [.ref 11, .int (nI 1)] [] hnw dX6_twin_83 ml_X6_375 im_X6_news (((show sT M (stI (stI M 11 0 (nI t)) 0 17 1) from ⟨rfl, rfl, rfl⟩).TR hT).s 0 (by decide)) (((show sT M (stI (stI M 11 0 (nI t)) 0 17 1) from ⟨rfl, rfl, rfl⟩).TR hT).n 0 (by decide)) rfl rfl (dl1 (d := d) (by omega)) rfl rfl (Nat.le_of_ble_eq_true rfl) rfl rfl (Nat.zero_le _) (Nat.zero_le _) (fun r D1 hD => ?_)
  obtain ⟨rfl, hD⟩ := hD
  refine aw_cons ?_
  refine aw_iret dX6_twin_86 rfl (Nat.zero_le _) (Nat.zero_le _) ?_
  exact ⟨rfl, hD⟩
