-- THE REFERENCE: A ROW BEGINS
theorem rFl_n : ∀ k, k < 16 → rFl (nI k) = nI (if k < 8 then k else 11) := by decide
theorem begM_Lx (M : xM) (t : Nat) (x y : Int32) {a : Nat} (h3 : a ≠ 3) (h5 : a ≠ 5) : mL (begM M t x y) a = mL M a := by
  unfold begM
  rw [mL_flL_ne _ h5]
  show mL (stL (stI (stI M 1 t x) 2 t y) 3 t 0) a = _
  rw [mL_stL_c _ _ _ h3]
  rfl
theorem RFm.b {M0 A : xM} (h : RFm M0 A) {u : Nat} (hu : u < 12) (k : Int32) {z : Nat} (hz : z ≤ 12) : RFm M0 (begM A (12 + u) k (nI z)) := by
  obtain ⟨h1, h2, h3, h4, h5, h6, h7⟩ := h
  refine ⟨h1.tr (sT_X6_begins _ _ _ _), fun y a b c d e f => (begM_k A _ _ _ (by omega) d).trans (h2 y a b c d e f), fun y a b => (begM_Lx A _ _ _ a b).trans (h3 y a b), fun i hi => ?_, fun i hi => ?_, fun j a b c d => (congrFun (begM_oI A _ _ _ (Or.inl rfl)) j).trans (h6 j a b c d), fun t ht => ?_⟩
  · rw [begM_1, begM_2, if_neg (by omega), if_neg (by omega), begM_3o A _ _ _ (by omega)]
    exact h4 i hi
  · have e : i = 12 * (i / 12) + i % 12 := by omega
    have q := h5 i hi
    rw [e] at q ⊢
    rw [begM_4o A _ _ _ (show i / 12 ≠ 12 + u by omega) (Nat.mod_lt _ (by decide)), begM_5o A _ _ _ (show i / 12 ≠ 12 + u by omega) (Nat.mod_lt _ (by decide))]
    exact q
  · rw [begM_2]
    by_cases c : t = 12 + u
    · rw [if_pos c]; exact ⟨z, hz, rfl⟩
    · rw [if_neg c]; exact h7 t ht
theorem RFm.z {M0 A : xM} (h : RFm M0 A) {u : Nat} (hu : 12 ≤ u) {z : Nat} (hz : z ≤ 12) : RFm M0 (stI A 2 u (nI z)) := by
  obtain ⟨h1, h2, h3, h4, h5, h6, h7⟩ := h
  refine ⟨h1.tr ⟨rfl, rfl, rfl⟩, fun y a b c d e f => (mI_stI_c _ _ _ c).trans (h2 y a b c d e f), h3, fun i hi => ?_, fun i hi => ?_, fun j a b c d => (congrFun (mI_stI_c _ _ _ (by decide)) j).trans (h6 j a b c d), fun t ht => ?_⟩
  · rw [mI_stI_c _ _ _ (show (1 : Nat) ≠ 2 by decide), mI_stI_o _ _ _ _ (show i ≠ u by omega)]; exact h4 i hi
  · rw [mI_stI_c _ _ _ (by decide)]; exact h5 i hi
  · by_cases c : t = u
    · subst c; exact ⟨z, hz, mI_stI_v _ _ _ _⟩
    · rw [mI_stI_o _ _ _ _ c]; exact h7 t ht
def nrM (A : xM) (p u k z q : Nat) : xM := stI (stI (begM (stI (stI A 0 24 (nI (p + 1))) 0 26 (nI (u + 1))) (12 + u) (nI k) (nI 0)) 0 24 (nI q)) 2 (12 + u) (nI z)
theorem sT_nrM (A : xM) (p u k z q : Nat) : sT A (nrM A p u k z q) := ⟨rfl, rfl, rfl⟩
theorem SK_nrM (A : xM) (p u k z q : Nat) : SK A (nrM A p u k z q) := by
  unfold nrM
  refine ⟨?_, ?_, ?_⟩
  · rw [mI_stI_c _ _ _ (by decide), mI_stI_o _ _ _ _ (by decide), begM_oI _ _ _ _ (Or.inl rfl), mI_stI_o _ _ _ _ (by decide), mI_stI_o _ _ _ _ (by decide)]
  · rw [mI_stI_c _ _ _ (by decide), mI_stI_c _ _ _ (by decide), begM_oI _ _ _ _ (Or.inr (by decide)), mI_stI_c _ _ _ (by decide), mI_stI_c _ _ _ (by decide)]
  · rw [mI_stI_c _ _ _ (by decide), mI_stI_c _ _ _ (by decide), begM_oI _ _ _ _ (Or.inr (by decide)), mI_stI_c _ _ _ (by decide), mI_stI_c _ _ _ (by decide)]
theorem RS.new {M0 A : xM} {p : Nat} {R : pR} (h : RS M0 p R A) {k z : Nat} (hu : R.1 < 12) (hk : k < 14) (hz : z ≤ 12) (q : Nat) : RS M0 q (rNew R k z) (nrM A p R.1 k z q) := by
  obtain ⟨h1, h2, h3, h4, h5, h6⟩ := h
  refine ⟨((((h1.i 24 _ (by decide)).i 26 _ (by decide)).b hu _ (Nat.zero_le _)).i 24 _ (by decide)).z (by omega) hz, ?_, ?_, ?_, hu, fun n hn => ?_⟩
  · unfold nrM
    rw [mI_stI_c _ _ _ (by decide), mI_stI_v]
  · unfold nrM
    rw [mI_stI_c _ _ _ (by decide), mI_stI_o _ _ _ _ (by decide), begM_oI _ _ _ _ (Or.inl rfl), mI_stI_o _ _ _ _ (by decide), mI_stI_o _ _ _ _ (by decide)]
    exact h3
  · unfold nrM
    rw [mI_stI_c _ _ _ (by decide), mI_stI_o _ _ _ _ (by decide), begM_oI _ _ _ _ (Or.inl rfl), mI_stI_v]
    rfl
  · have g1 : ∀ i, mI (nrM A p R.1 k z q) 1 i = if i = 12 + R.1 then nI k else mI A 1 i := fun i => by
      unfold nrM
      rw [mI_stI_c _ _ _ (by decide), mI_stI_c _ _ _ (by decide), begM_1, mI_stI_c _ _ _ (by decide), mI_stI_c _ _ _ (by decide)]
    have g2 : ∀ i, i ≠ 12 + R.1 → mI (nrM A p R.1 k z q) 2 i = mI A 2 i := fun i hi => by
      unfold nrM
      rw [mI_stI_o _ _ _ _ hi, mI_stI_c _ _ _ (by decide), begM_2, if_neg hi, mI_stI_c _ _ _ (by decide), mI_stI_c _ _ _ (by decide)]
    have gB : ∀ (x : xM) (a k2 : Nat) (w : Int32), mL (stI x a k2 w) = mL x := fun _ _ _ _ => rfl
    by_cases c : n = R.1
    · subst c
      have k1 : rK (rNew R k z) R.1 = k := if_pos rfl
      have k2 : rZ (rNew R k z) R.1 = z := if_pos rfl
      have k3 : rW (rNew R k z) R.1 = fun _ => if k < 8 then k else 11 := if_pos rfl
      have k4 : rV (rNew R k z) R.1 = fun _ => 0 := if_pos rfl
      rw [k1, k2, k3, k4]
      refine ⟨by omega, hz, by rw [g1, if_pos rfl], mI_stI_v _ _ _ _, fun z => absurd z (by omega), fun j hj => ⟨?_, ?_⟩⟩
      · unfold nrM
        rw [mI_stI_c _ _ _ (by decide), mI_stI_c _ _ _ (by decide), begM_4 _ _ _ _ (by omega)]
        exact rFl_n k (by omega)
      · unfold nrM
        rw [gB, gB, begM_5 _ _ _ _ (by omega)]
        by_cases c8 : k < 8
        · rw [if_pos c8]; exact (if_neg (show ¬ k = 10 by omega)).symm
        · rw [if_neg c8]; rfl
    · have hn' : n < R.1 := by have : n < R.1 + 1 := hn; omega
      have k1 : rK (rNew R k z) n = rK R n := if_neg c
      have k2 : rZ (rNew R k z) n = rZ R n := if_neg c
      have k3 : rW (rNew R k z) n = rW R n := if_neg c
      have k4 : rV (rNew R k z) n = rV R n := if_neg c
      obtain ⟨a1, a2, a3, a4, a5, a6⟩ := h6 n hn'
      rw [k1, k2, k3, k4]
      refine ⟨a1, a2, by rw [g1, if_neg (by omega)]; exact a3, by rw [g2 _ (by omega)]; exact a4, fun z => ?_, fun j hj => ?_⟩
      · unfold nrM
        rw [gB, gB, begM_3o _ _ _ _ (by omega)]
        exact a5 z
      · obtain ⟨b1, b2⟩ := a6 j hj
        constructor
        · unfold nrM
          rw [mI_stI_c _ _ _ (by decide), mI_stI_c _ _ _ (by decide), begM_4o _ _ _ _ (by omega) (by omega), mI_stI_c _ _ _ (by decide), mI_stI_c _ _ _ (by decide)]
          exact b1
        · unfold nrM
          rw [gB, gB, begM_5o _ _ _ _ (by omega) (by omega)]
          exact b2
theorem rem16 : ∀ b, b < 256 → nI b - nI b / 16 * 16 = nI (b % 16) := by decide +kernel
theorem sp_rw_f {d : Nat} (hd : 4 ≤ d) {M0 A : xM} {B : Nat → Nat} {L p : Nat} {R : pR} (hS : RfS M0 B L) (hC : RS M0 p R A) (hpl : p < L) (htag : sX1_isArrayTag (nI (B p)) = true) (hu : ¬ R.1 < 12) : Sp (fX6_readsRow d) [.ref 0] A (fun r C => r = none ∧ RFm M0 C ∧ mI C 0 25 = nI p) := by
  refine Sp.of pn_X6 (Nat.le_of_ble_eq_true rfl) (fun h => Bool.noConfusion h) ?_
  have hL2 := hS.2.1
  have hD := hC.1.D hS
  have hT := hD.1
  have hu12 := hC.2.2.2.2.1
  have hS0 := hD.2.2.2
  have hb := (hS0 p hpl).2
  obtain ⟨u, eu⟩ : ∃ u, u = R.1 := ⟨_, rfl⟩
  have hu1 : mI A 0 26 = nI u := by rw [eu]; exact hC.2.2.2.1
  refine aw_aload_n dX6_readsRow_0 0 rfl ?_
  refine aw_getI dX6_readsRow_1 fl_X6_327 (hT.s 0 (by decide)) (hT.n 0 (by decide)) ?_
  refine aw_topE hu1 ?_
  refine aw_bipush (v := 12) dX6_readsRow_4 (by decide) ?_
  refine aw_icmp_neN u 12 18 dX6_readsRow_6 (by decide) rfl rfl (by omega) (by omega) (fun c1 => absurd (by omega) c1) (fun c1 => ?_)
  refine aw_aload_n dX6_readsRow_9 0 rfl ?_
  refine aw_aload_n dX6_readsRow_10 0 rfl ?_
  refine aw_getI dX6_readsRow_11 fl_X6_289 (hT.s 0 (by decide)) (hT.n 0 (by decide)) ?_
  refine aw_topE hC.2.1 ?_
  refine aw_callVv [.int (nI p)] [] (sp_fa (d := d - 1) (nI p) hT hC.2.2.1) dX6_readsRow_14 ml_X6_295 im_X6_faults (hT.s 0 (by decide)) (hT.n 0 (by decide)) rfl rfl (dl1 (d := d) (by omega)) rfl rfl (Nat.le_of_ble_eq_true rfl) rfl rfl (Nat.zero_le _) (Nat.zero_le _) ?_
  refine aw_ret dX6_readsRow_17 rfl (Nat.zero_le _) (Nat.zero_le _) ?_
  exact ⟨rfl, hC.1.i 25 (nI p) (by decide), mI_stI_v _ _ _ _⟩
theorem sp_rw_l {d : Nat} (hd : 4 ≤ d) {M0 A : xM} {B : Nat → Nat} {L p : Nat} {R : pR} (hS : RfS M0 B L) (hC : RS M0 p R A) (hpl : p < L) (htag : sX1_isArrayTag (nI (B p)) = true) (hu : R.1 < 12) (hc : ¬ (p + 1 < L ∧ B (p + 1) ≤ 12)) : Sp (fX6_readsRow d) [.ref 0] A (fun r C => r = none ∧ RFm M0 C ∧ mI C 0 25 = nI (p + 1)) := by
  refine Sp.of pn_X6 (Nat.le_of_ble_eq_true rfl) (fun h => Bool.noConfusion h) ?_
  have hL2 := hS.2.1
  have hD := hC.1.D hS
  have hT := hD.1
  have hu12 := hC.2.2.2.2.1
  have hS0 := hD.2.2.2
  have hb := (hS0 p hpl).2
  obtain ⟨u, eu⟩ : ∃ u, u = R.1 := ⟨_, rfl⟩
  have hu1 : mI A 0 26 = nI u := by rw [eu]; exact hC.2.2.2.1
  have hD3 : RfS (begM (stI (stI A 0 24 (nI (p + 1))) 0 26 (nI (u + 1))) (12 + u) (nI (B p % 16)) (nI 0)) B L := hD.k ((sT.I _ _ _ _).tr ((sT.I _ _ _ _).tr (sT_X6_begins _ _ _ _))) (by rw [begM_oI _ _ _ _ (Or.inl rfl), mI_stI_o _ _ _ _ (by decide), mI_stI_o _ _ _ _ (by decide)]) (by rw [begM_oI _ _ _ _ (Or.inr (by decide)), mI_stI_c _ _ _ (by decide), mI_stI_c _ _ _ (by decide)])
  have hp3 : mI (begM (stI (stI A 0 24 (nI (p + 1))) 0 26 (nI (u + 1))) (12 + u) (nI (B p % 16)) (nI 0)) 0 24 = nI (p + 1) := by rw [begM_oI _ _ _ _ (Or.inl rfl), mI_stI_o _ _ _ _ (by decide), mI_stI_v]
  have hf3 : mI (begM (stI (stI A 0 24 (nI (p + 1))) 0 26 (nI (u + 1))) (12 + u) (nI (B p % 16)) (nI 0)) 0 25 = -1 := by rw [begM_oI _ _ _ _ (Or.inl rfl), mI_stI_o _ _ _ _ (by decide), mI_stI_o _ _ _ _ (by decide)]; exact hC.2.2.1
  have hc : ¬ (p + 1 < L ∧ 0 ≤ B (p + 1) ∧ B (p + 1) ≤ 12) := by omega
  refine aw_aload_n dX6_readsRow_0 0 rfl ?_
  refine aw_getI dX6_readsRow_1 fl_X6_327 (hT.s 0 (by decide)) (hT.n 0 (by decide)) ?_
  refine aw_topE hu1 ?_
  refine aw_bipush (v := 12) dX6_readsRow_4 (by decide) ?_
  refine aw_icmp_neN u 12 18 dX6_readsRow_6 (by decide) rfl rfl (by omega) (by omega) (fun c1 => ?_) (fun c1 => absurd c1 (by omega))
  refine aw_aload_n dX6_readsRow_18 0 rfl ?_
  refine aw_getR (b := 14) dX6_readsRow_19 fl_X6_54 rfl (hT.s 0 (by decide)) (hT.n 0 (by decide)) (hT.r 22) ?_
  refine aw_aload_n dX6_readsRow_22 0 rfl ?_
  refine aw_getI dX6_readsRow_23 fl_X6_289 (hT.s 0 (by decide)) (hT.n 0 (by decide)) ?_
  refine aw_topE hC.2.1 ?_
  refine aw_ialdN p dX6_readsRow_26 (hT.s 14 (by decide)) (hT.n 14 (by decide)) rfl (by omega) (by first | decide | omega) ?_
  refine aw_topE (hS0 p hpl).1 ?_
  refine aw_istore_n [(1, .int (nI (B p))), (0, .ref 0)] dX6_readsRow_27 (Nat.le_of_ble_eq_true rfl) rfl ?_
  refine aw_aload_n dX6_readsRow_28 1 rfl ?_
  refine aw_dup dX6_readsRow_29 rfl ?_
  refine aw_getI dX6_readsRow_30 fl_X6_289 (hT.s 0 (by decide)) (hT.n 0 (by decide)) ?_
  refine aw_topE hC.2.1 ?_
  refine aw_iconst (v := 1) dX6_readsRow_33 (by decide) ?_
  refine aw_iaddN p 1 dX6_readsRow_34 rfl rfl ?_
  refine aw_putI dX6_readsRow_35 fl_X6_289 (Or.inl rfl) (hT.s 0 (by decide)) (hT.n 0 (by decide)) ?_
  refine aw_bipush (v := 12) dX6_readsRow_38 (by decide) ?_
  refine aw_aload_n dX6_readsRow_40 1 rfl ?_
  refine aw_getI dX6_readsRow_41 fl_X6_327 (((sT.I A 0 24 (nI (p + 1))).TR hT).s 0 (by decide)) (((sT.I A 0 24 (nI (p + 1))).TR hT).n 0 (by decide)) ?_
  refine aw_topE ((mI_stI_o _ _ _ _ (by decide)).trans hu1) ?_
  refine aw_iaddN 12 u dX6_readsRow_44 rfl rfl ?_
  refine aw_istore_n [(2, .int (nI (12 + u))), (1, .int (nI (B p))), (0, .ref 0)] dX6_readsRow_45 (Nat.le_of_ble_eq_true rfl) rfl ?_
  refine aw_aload_n dX6_readsRow_46 2 rfl ?_
  refine aw_dup dX6_readsRow_47 rfl ?_
  refine aw_getI dX6_readsRow_48 fl_X6_327 (((sT.I A 0 24 (nI (p + 1))).TR hT).s 0 (by decide)) (((sT.I A 0 24 (nI (p + 1))).TR hT).n 0 (by decide)) ?_
  refine aw_topE ((mI_stI_o _ _ _ _ (by decide)).trans hu1) ?_
  refine aw_iconst (v := 1) dX6_readsRow_51 (by decide) ?_
  refine aw_iaddN u 1 dX6_readsRow_52 rfl rfl ?_
  refine aw_putI dX6_readsRow_53 fl_X6_327 (Or.inl rfl) (((sT.I A 0 24 (nI (p + 1))).TR hT).s 0 (by decide)) (((sT.I A 0 24 (nI (p + 1))).TR hT).n 0 (by decide)) ?_
  refine aw_aload_n dX6_readsRow_56 2 rfl ?_
  refine aw_iload_n dX6_readsRow_57 0 rfl ?_
  refine aw_iload_n dX6_readsRow_58 1 rfl ?_
  refine aw_bipush (v := 16) dX6_readsRow_59 (by decide) ?_
  refine aw_irem dX6_readsRow_61 (by decide) ?_
  refine aw_topE (rem16 (B p) hb) ?_
  refine aw_iconst (v := 0) dX6_readsRow_62 (by decide) ?_
  refine aw_callVv [.int (nI (12 + u)), .int (nI (B p % 16)), .int 0] [] (sp_X6_begins (d := d - 1) (by omega) (12 + u) (nI (B p % 16)) (nI 0) ((sT.I (stI A 0 24 (nI (p + 1))) 0 26 (nI (u + 1))).TR ((sT.I A 0 24 (nI (p + 1))).TR hT)) (by omega)) dX6_readsRow_63 ml_X6_155 im_X6_begins (((sT.I (stI A 0 24 (nI (p + 1))) 0 26 (nI (u + 1))).TR ((sT.I A 0 24 (nI (p + 1))).TR hT)).s 0 (by decide)) (((sT.I (stI A 0 24 (nI (p + 1))) 0 26 (nI (u + 1))).TR ((sT.I A 0 24 (nI (p + 1))).TR hT)).n 0 (by decide)) rfl rfl (dl1 (d := d) (by omega)) rfl rfl (Nat.le_of_ble_eq_true rfl) rfl rfl (Nat.zero_le _) (Nat.zero_le _) ?_
  refine aw_aload_n dX6_readsRow_66 2 rfl ?_
  refine aw_iconst (v := 0) dX6_readsRow_67 (by decide) ?_
  refine aw_bipush (v := 12) dX6_readsRow_68 (by decide) ?_
  refine aw_callVi [.int 0, .int 12] [] (sp_p1f (d := d - 1) (by omega) 0 12 hD3 hp3 (by omega) hf3 (by decide) (by decide) hc) dX6_readsRow_70 ml_X6_320 im_X6_part1 (((sT_X6_begins (stI (stI A 0 24 (nI (p + 1))) 0 26 (nI (u + 1))) (12 + u) (nI (B p % 16)) (nI 0)).TR ((sT.I (stI A 0 24 (nI (p + 1))) 0 26 (nI (u + 1))).TR ((sT.I A 0 24 (nI (p + 1))).TR hT))).s 0 (by decide)) (((sT_X6_begins (stI (stI A 0 24 (nI (p + 1))) 0 26 (nI (u + 1))) (12 + u) (nI (B p % 16)) (nI 0)).TR ((sT.I (stI A 0 24 (nI (p + 1))) 0 26 (nI (u + 1))).TR ((sT.I A 0 24 (nI (p + 1))).TR hT))).n 0 (by decide)) rfl rfl (dl1 (d := d) (by omega)) rfl rfl (Nat.le_of_ble_eq_true rfl) rfl rfl (Nat.zero_le _) (Nat.zero_le _) ?_
  refine aw_istore_n [(3, .int (-1)), (2, .int (nI (12 + u))), (1, .int (nI (B p))), (0, .ref 0)] dX6_readsRow_73 (Nat.le_of_ble_eq_true rfl) rfl ?_
  refine aw_iload_n dX6_readsRow_74 0 rfl ?_
  refine aw_if_ge 79 dX6_readsRow_75 (by decide) (fun c2 => absurd c2 (by decide)) (fun c2 => ?_)
  refine aw_ret dX6_readsRow_78 rfl (Nat.zero_le _) (Nat.zero_le _) ?_
  exact ⟨rfl, ((((hC.1.i 24 _ (by decide)).i 26 _ (by decide)).b (by omega) _ (Nat.zero_le _)).i 25 (nI (p + 1)) (by decide)), mI_stI_v _ _ _ _⟩
def pNrow (B : Nat → Nat) (L : Nat) (b p : Nat) (R : pR) : pP := if b / 16 = 2 then pRuns B L (b % 16) R.1 (B (p + 1)) 0 0 0 (p + 1 + 1) (rNew R (b % 16) (B (p + 1))) else if b / 16 = 3 then pSteps B L (b % 16) R.1 (B (p + 1)) 0 0 (p + 1 + 1) (rNew R (b % 16) (B (p + 1))) else pFlat B L (b % 16) R.1 (B (p + 1)) 0 (p + 1 + 1) (rNew R (b % 16) (B (p + 1)))
theorem sp_rw_n {d : Nat} (hd : 4 ≤ d) {M0 A : xM} {B : Nat → Nat} {L p : Nat} {R : pR} (hS : RfS M0 B L) (hC : RS M0 p R A) (hpl : p < L) (htag : sX1_isArrayTag (nI (B p)) = true) (hu : R.1 < 12) (hc : p + 1 < L ∧ B (p + 1) ≤ 12) (h8 : B p % 16 < 8) : Sp (fX6_readsRow d) [.ref 0] A (QR M0 A (pNrow B L (B p) p R)) := by
  refine Sp.of pn_X6 (Nat.le_of_ble_eq_true rfl) (fun h => Bool.noConfusion h) ?_
  have hL2 := hS.2.1
  have hD := hC.1.D hS
  have hT := hD.1
  have hu12 := hC.2.2.2.2.1
  have hS0 := hD.2.2.2
  have hb := (hS0 p hpl).2
  obtain ⟨u, eu⟩ : ∃ u, u = R.1 := ⟨_, rfl⟩
  have hu1 : mI A 0 26 = nI u := by rw [eu]; exact hC.2.2.2.1
  have hD3 : RfS (begM (stI (stI A 0 24 (nI (p + 1))) 0 26 (nI (u + 1))) (12 + u) (nI (B p % 16)) (nI 0)) B L := hD.k ((sT.I _ _ _ _).tr ((sT.I _ _ _ _).tr (sT_X6_begins _ _ _ _))) (by rw [begM_oI _ _ _ _ (Or.inl rfl), mI_stI_o _ _ _ _ (by decide), mI_stI_o _ _ _ _ (by decide)]) (by rw [begM_oI _ _ _ _ (Or.inr (by decide)), mI_stI_c _ _ _ (by decide), mI_stI_c _ _ _ (by decide)])
  have hp3 : mI (begM (stI (stI A 0 24 (nI (p + 1))) 0 26 (nI (u + 1))) (12 + u) (nI (B p % 16)) (nI 0)) 0 24 = nI (p + 1) := by rw [begM_oI _ _ _ _ (Or.inl rfl), mI_stI_o _ _ _ _ (by decide), mI_stI_v]
  have hf3 : mI (begM (stI (stI A 0 24 (nI (p + 1))) 0 26 (nI (u + 1))) (12 + u) (nI (B p % 16)) (nI 0)) 0 25 = -1 := by rw [begM_oI _ _ _ _ (Or.inl rfl), mI_stI_o _ _ _ _ (by decide), mI_stI_o _ _ _ _ (by decide)]; exact hC.2.2.1
  have hC4 := hC.new (k := B p % 16) (z := B (p + 1)) hu (tg_ok (B p) hb htag).2.1 hc.2 (p + 1 + 1)
  rw [← eu] at hC4
  have hc : p + 1 < L ∧ 0 ≤ B (p + 1) ∧ B (p + 1) ≤ 12 := by omega
  obtain ⟨tg1, tg2, tg3, tg4⟩ := tg_ok (B p) hb htag
  have z1 : rK (rNew R (B p % 16) (B (p + 1))) u = B p % 16 := by rw [eu]; exact if_pos rfl
  have z2 : rZ (rNew R (B p % 16) (B (p + 1))) u = B (p + 1) := by rw [eu]; exact if_pos rfl
  have z3 : u < (rNew R (B p % 16) (B (p + 1))).1 := by show u < R.1 + 1; omega
  have hk4 : mI (nrM A p u (B p % 16) (B (p + 1)) (p + 1 + 1)) 1 (12 + u) = nI (B p % 16) := by have q := (hC4.2.2.2.2.2 u z3).2.2.1; rw [z1] at q; exact q
  have hpl4 : bz (sX6_isPlain (nrM A p u (B p % 16) (B (p + 1)) (p + 1 + 1)) (nI (12 + u))) = 1 := by
    unfold sX6_isPlain
    rw [nI_clamp (by omega), hk4, if_neg]
    · rfl
    · intro z
      have := (E32 (n := 8) (by decide) (by omega)).mp z
      omega
  have hWn : ∀ i, rW (rNew R (B p % 16) (B (p + 1))) u i = B p % 16 := fun i => by
    rw [show rW (rNew R (B p % 16) (B (p + 1))) u = fun _ => if B p % 16 < 8 then B p % 16 else 11 by rw [eu]; exact if_pos rfl]
    exact if_pos h8
  have hkp := SK_nrM A p u (B p % 16) (B (p + 1)) (p + 1 + 1)
  unfold pNrow
  rw [← eu]
  rcases tg1 with c | c | c
  · rw [if_neg (by omega), if_neg (by omega)]
    have hq := sp_rF (d := d - 1) (by omega) hS h8 hC4 (by omega) z3 z1 z2 hWn
    refine aw_aload_n dX6_readsRow_0 0 rfl ?_
    refine aw_getI dX6_readsRow_1 fl_X6_327 (hT.s 0 (by decide)) (hT.n 0 (by decide)) ?_
    refine aw_topE hu1 ?_
    refine aw_bipush (v := 12) dX6_readsRow_4 (by decide) ?_
    refine aw_icmp_neN u 12 18 dX6_readsRow_6 (by decide) rfl rfl (by omega) (by omega) (fun c1 => ?_) (fun c1 => absurd c1 (by omega))
    refine aw_aload_n dX6_readsRow_18 0 rfl ?_
    refine aw_getR (b := 14) dX6_readsRow_19 fl_X6_54 rfl (hT.s 0 (by decide)) (hT.n 0 (by decide)) (hT.r 22) ?_
    refine aw_aload_n dX6_readsRow_22 0 rfl ?_
    refine aw_getI dX6_readsRow_23 fl_X6_289 (hT.s 0 (by decide)) (hT.n 0 (by decide)) ?_
    refine aw_topE hC.2.1 ?_
    refine aw_ialdN p dX6_readsRow_26 (hT.s 14 (by decide)) (hT.n 14 (by decide)) rfl (by omega) (by first | decide | omega) ?_
    refine aw_topE (hS0 p hpl).1 ?_
    refine aw_istore_n [(1, .int (nI (B p))), (0, .ref 0)] dX6_readsRow_27 (Nat.le_of_ble_eq_true rfl) rfl ?_
    refine aw_aload_n dX6_readsRow_28 1 rfl ?_
    refine aw_dup dX6_readsRow_29 rfl ?_
    refine aw_getI dX6_readsRow_30 fl_X6_289 (hT.s 0 (by decide)) (hT.n 0 (by decide)) ?_
    refine aw_topE hC.2.1 ?_
    refine aw_iconst (v := 1) dX6_readsRow_33 (by decide) ?_
    refine aw_iaddN p 1 dX6_readsRow_34 rfl rfl ?_
    refine aw_putI dX6_readsRow_35 fl_X6_289 (Or.inl rfl) (hT.s 0 (by decide)) (hT.n 0 (by decide)) ?_
    refine aw_bipush (v := 12) dX6_readsRow_38 (by decide) ?_
    refine aw_aload_n dX6_readsRow_40 1 rfl ?_
    refine aw_getI dX6_readsRow_41 fl_X6_327 (((sT.I A 0 24 (nI (p + 1))).TR hT).s 0 (by decide)) (((sT.I A 0 24 (nI (p + 1))).TR hT).n 0 (by decide)) ?_
    refine aw_topE ((mI_stI_o _ _ _ _ (by decide)).trans hu1) ?_
    refine aw_iaddN 12 u dX6_readsRow_44 rfl rfl ?_
    refine aw_istore_n [(2, .int (nI (12 + u))), (1, .int (nI (B p))), (0, .ref 0)] dX6_readsRow_45 (Nat.le_of_ble_eq_true rfl) rfl ?_
    refine aw_aload_n dX6_readsRow_46 2 rfl ?_
    refine aw_dup dX6_readsRow_47 rfl ?_
    refine aw_getI dX6_readsRow_48 fl_X6_327 (((sT.I A 0 24 (nI (p + 1))).TR hT).s 0 (by decide)) (((sT.I A 0 24 (nI (p + 1))).TR hT).n 0 (by decide)) ?_
    refine aw_topE ((mI_stI_o _ _ _ _ (by decide)).trans hu1) ?_
    refine aw_iconst (v := 1) dX6_readsRow_51 (by decide) ?_
    refine aw_iaddN u 1 dX6_readsRow_52 rfl rfl ?_
    refine aw_putI dX6_readsRow_53 fl_X6_327 (Or.inl rfl) (((sT.I A 0 24 (nI (p + 1))).TR hT).s 0 (by decide)) (((sT.I A 0 24 (nI (p + 1))).TR hT).n 0 (by decide)) ?_
    refine aw_aload_n dX6_readsRow_56 2 rfl ?_
    refine aw_iload_n dX6_readsRow_57 0 rfl ?_
    refine aw_iload_n dX6_readsRow_58 1 rfl ?_
    refine aw_bipush (v := 16) dX6_readsRow_59 (by decide) ?_
    refine aw_irem dX6_readsRow_61 (by decide) ?_
    refine aw_topE (rem16 (B p) hb) ?_
    refine aw_iconst (v := 0) dX6_readsRow_62 (by decide) ?_
    refine aw_callVv [.int (nI (12 + u)), .int (nI (B p % 16)), .int 0] [] (sp_X6_begins (d := d - 1) (by omega) (12 + u) (nI (B p % 16)) (nI 0) ((sT.I (stI A 0 24 (nI (p + 1))) 0 26 (nI (u + 1))).TR ((sT.I A 0 24 (nI (p + 1))).TR hT)) (by omega)) dX6_readsRow_63 ml_X6_155 im_X6_begins (((sT.I (stI A 0 24 (nI (p + 1))) 0 26 (nI (u + 1))).TR ((sT.I A 0 24 (nI (p + 1))).TR hT)).s 0 (by decide)) (((sT.I (stI A 0 24 (nI (p + 1))) 0 26 (nI (u + 1))).TR ((sT.I A 0 24 (nI (p + 1))).TR hT)).n 0 (by decide)) rfl rfl (dl1 (d := d) (by omega)) rfl rfl (Nat.le_of_ble_eq_true rfl) rfl rfl (Nat.zero_le _) (Nat.zero_le _) ?_
    refine aw_aload_n dX6_readsRow_66 2 rfl ?_
    refine aw_iconst (v := 0) dX6_readsRow_67 (by decide) ?_
    refine aw_bipush (v := 12) dX6_readsRow_68 (by decide) ?_
    refine aw_callVi [.int 0, .int 12] [] (sp_p1k (d := d - 1) (by omega) 0 12 hD3 hp3 (by omega) hf3 (by decide) (by decide) hc) dX6_readsRow_70 ml_X6_320 im_X6_part1 (((sT_X6_begins (stI (stI A 0 24 (nI (p + 1))) 0 26 (nI (u + 1))) (12 + u) (nI (B p % 16)) (nI 0)).TR ((sT.I (stI A 0 24 (nI (p + 1))) 0 26 (nI (u + 1))).TR ((sT.I A 0 24 (nI (p + 1))).TR hT))).s 0 (by decide)) (((sT_X6_begins (stI (stI A 0 24 (nI (p + 1))) 0 26 (nI (u + 1))) (12 + u) (nI (B p % 16)) (nI 0)).TR ((sT.I (stI A 0 24 (nI (p + 1))) 0 26 (nI (u + 1))).TR ((sT.I A 0 24 (nI (p + 1))).TR hT))).n 0 (by decide)) rfl rfl (dl1 (d := d) (by omega)) rfl rfl (Nat.le_of_ble_eq_true rfl) rfl rfl (Nat.zero_le _) (Nat.zero_le _) ?_
    refine aw_istore_n [(3, .int (nI (B (p + 1)))), (2, .int (nI (12 + u))), (1, .int (nI (B p))), (0, .ref 0)] dX6_readsRow_73 (Nat.le_of_ble_eq_true rfl) rfl ?_
    refine aw_iload_n dX6_readsRow_74 0 rfl ?_
    refine aw_if_ge 79 dX6_readsRow_75 (by decide) (fun c2 => ?_) (fun c2 => absurd (Int32.not_lt.mp (nI_nn (by omega))) c2)
    refine aw_aload_n dX6_readsRow_79 3 rfl ?_
    refine aw_getR (b := 2) dX6_readsRow_80 fl_X6_13 rfl (((sT.I (begM (stI (stI A 0 24 (nI (p + 1))) 0 26 (nI (u + 1))) (12 + u) (nI (B p % 16)) (nI 0)) 0 24 (nI (p + 1 + 1))).TR ((sT_X6_begins (stI (stI A 0 24 (nI (p + 1))) 0 26 (nI (u + 1))) (12 + u) (nI (B p % 16)) (nI 0)).TR ((sT.I (stI A 0 24 (nI (p + 1))) 0 26 (nI (u + 1))).TR ((sT.I A 0 24 (nI (p + 1))).TR hT)))).s 0 (by decide)) (((sT.I (begM (stI (stI A 0 24 (nI (p + 1))) 0 26 (nI (u + 1))) (12 + u) (nI (B p % 16)) (nI 0)) 0 24 (nI (p + 1 + 1))).TR ((sT_X6_begins (stI (stI A 0 24 (nI (p + 1))) 0 26 (nI (u + 1))) (12 + u) (nI (B p % 16)) (nI 0)).TR ((sT.I (stI A 0 24 (nI (p + 1))) 0 26 (nI (u + 1))).TR ((sT.I A 0 24 (nI (p + 1))).TR hT)))).n 0 (by decide)) (((sT.I (begM (stI (stI A 0 24 (nI (p + 1))) 0 26 (nI (u + 1))) (12 + u) (nI (B p % 16)) (nI 0)) 0 24 (nI (p + 1 + 1))).TR ((sT_X6_begins (stI (stI A 0 24 (nI (p + 1))) 0 26 (nI (u + 1))) (12 + u) (nI (B p % 16)) (nI 0)).TR ((sT.I (stI A 0 24 (nI (p + 1))) 0 26 (nI (u + 1))).TR ((sT.I A 0 24 (nI (p + 1))).TR hT)))).r 1) ?_
    refine aw_iload_n dX6_readsRow_83 1 rfl ?_
    refine aw_iload_n dX6_readsRow_84 0 rfl ?_
    refine aw_iastN (12 + u) dX6_readsRow_85 (((sT.I (begM (stI (stI A 0 24 (nI (p + 1))) 0 26 (nI (u + 1))) (12 + u) (nI (B p % 16)) (nI 0)) 0 24 (nI (p + 1 + 1))).TR ((sT_X6_begins (stI (stI A 0 24 (nI (p + 1))) 0 26 (nI (u + 1))) (12 + u) (nI (B p % 16)) (nI 0)).TR ((sT.I (stI A 0 24 (nI (p + 1))) 0 26 (nI (u + 1))).TR ((sT.I A 0 24 (nI (p + 1))).TR hT)))).s 2 (by decide)) (((sT.I (begM (stI (stI A 0 24 (nI (p + 1))) 0 26 (nI (u + 1))) (12 + u) (nI (B p % 16)) (nI 0)) 0 24 (nI (p + 1 + 1))).TR ((sT_X6_begins (stI (stI A 0 24 (nI (p + 1))) 0 26 (nI (u + 1))) (12 + u) (nI (B p % 16)) (nI 0)).TR ((sT.I (stI A 0 24 (nI (p + 1))) 0 26 (nI (u + 1))).TR ((sT.I A 0 24 (nI (p + 1))).TR hT)))).n 2 (by decide)) rfl (by omega) (by first | decide | omega) ?_
    refine aw_aload_n dX6_readsRow_86 3 rfl ?_
    refine aw_iload_n dX6_readsRow_87 1 rfl ?_
    refine aw_callVi [.int (nI (12 + u))] [] (sp_X6_isPlain (d := d - 1) (by omega) (nI (12 + u)) ((sT_nrM A p u (B p % 16) (B (p + 1)) (p + 1 + 1)).TR hT) (vp_in_nI (by omega) (by decide))) dX6_readsRow_88 ml_X6_183 im_X6_isPlain (((sT_nrM A p u (B p % 16) (B (p + 1)) (p + 1 + 1)).TR hT).s 0 (by decide)) (((sT_nrM A p u (B p % 16) (B (p + 1)) (p + 1 + 1)).TR hT).n 0 (by decide)) rfl rfl (dl1 (d := d) (by omega)) rfl rfl (Nat.le_of_ble_eq_true rfl) rfl rfl (Nat.zero_le _) (Nat.zero_le _) ?_
    refine aw_topE hpl4 ?_
    refine aw_if_ne 127 dX6_readsRow_91 (by decide) (fun c3 => ?_) (fun c3 => absurd c3 (by decide))
    refine aw_iload_n dX6_readsRow_127 2 rfl ?_
    refine aw_bipush (v := 32) dX6_readsRow_128 (by decide) ?_
    refine aw_icmp_geN (B p) 32 141 dX6_readsRow_130 (by decide) rfl rfl (by omega) (by omega) (fun c4 => absurd c4 (by omega)) (fun c4 => ?_)
    refine aw_aload_n dX6_readsRow_133 3 rfl ?_
    refine aw_iload_n dX6_readsRow_134 1 rfl ?_
    refine aw_callVx [.int (nI (12 + u))] [] hq dX6_readsRow_135 ml_X6_330 im_X6_readsFlat (((sT_nrM A p u (B p % 16) (B (p + 1)) (p + 1 + 1)).TR hT).s 0 (by decide)) (((sT_nrM A p u (B p % 16) (B (p + 1)) (p + 1 + 1)).TR hT).n 0 (by decide)) rfl rfl (dl1 (d := d) (by omega)) rfl rfl (Nat.le_of_ble_eq_true rfl) rfl rfl (Nat.zero_le _) (Nat.zero_le _) (fun r A1 hA1 => ?_)
    obtain ⟨rfl, hA1⟩ := hA1
    refine aw_nil ?_
    refine aw_goto 160 dX6_readsRow_138 (by decide) ?_
    refine aw_ret dX6_readsRow_160 rfl (Nat.zero_le _) (Nat.zero_le _) ?_
    exact QR_s hkp ⟨rfl, hA1⟩
  · rw [if_pos c]
    have hq := sp_rR (d := d - 1) (by omega) hS h8 hC4 (by omega) z3 z1 z2 hWn
    refine aw_aload_n dX6_readsRow_0 0 rfl ?_
    refine aw_getI dX6_readsRow_1 fl_X6_327 (hT.s 0 (by decide)) (hT.n 0 (by decide)) ?_
    refine aw_topE hu1 ?_
    refine aw_bipush (v := 12) dX6_readsRow_4 (by decide) ?_
    refine aw_icmp_neN u 12 18 dX6_readsRow_6 (by decide) rfl rfl (by omega) (by omega) (fun c1 => ?_) (fun c1 => absurd c1 (by omega))
    refine aw_aload_n dX6_readsRow_18 0 rfl ?_
    refine aw_getR (b := 14) dX6_readsRow_19 fl_X6_54 rfl (hT.s 0 (by decide)) (hT.n 0 (by decide)) (hT.r 22) ?_
    refine aw_aload_n dX6_readsRow_22 0 rfl ?_
    refine aw_getI dX6_readsRow_23 fl_X6_289 (hT.s 0 (by decide)) (hT.n 0 (by decide)) ?_
    refine aw_topE hC.2.1 ?_
    refine aw_ialdN p dX6_readsRow_26 (hT.s 14 (by decide)) (hT.n 14 (by decide)) rfl (by omega) (by first | decide | omega) ?_
    refine aw_topE (hS0 p hpl).1 ?_
    refine aw_istore_n [(1, .int (nI (B p))), (0, .ref 0)] dX6_readsRow_27 (Nat.le_of_ble_eq_true rfl) rfl ?_
    refine aw_aload_n dX6_readsRow_28 1 rfl ?_
    refine aw_dup dX6_readsRow_29 rfl ?_
    refine aw_getI dX6_readsRow_30 fl_X6_289 (hT.s 0 (by decide)) (hT.n 0 (by decide)) ?_
    refine aw_topE hC.2.1 ?_
    refine aw_iconst (v := 1) dX6_readsRow_33 (by decide) ?_
    refine aw_iaddN p 1 dX6_readsRow_34 rfl rfl ?_
    refine aw_putI dX6_readsRow_35 fl_X6_289 (Or.inl rfl) (hT.s 0 (by decide)) (hT.n 0 (by decide)) ?_
    refine aw_bipush (v := 12) dX6_readsRow_38 (by decide) ?_
    refine aw_aload_n dX6_readsRow_40 1 rfl ?_
    refine aw_getI dX6_readsRow_41 fl_X6_327 (((sT.I A 0 24 (nI (p + 1))).TR hT).s 0 (by decide)) (((sT.I A 0 24 (nI (p + 1))).TR hT).n 0 (by decide)) ?_
    refine aw_topE ((mI_stI_o _ _ _ _ (by decide)).trans hu1) ?_
    refine aw_iaddN 12 u dX6_readsRow_44 rfl rfl ?_
    refine aw_istore_n [(2, .int (nI (12 + u))), (1, .int (nI (B p))), (0, .ref 0)] dX6_readsRow_45 (Nat.le_of_ble_eq_true rfl) rfl ?_
    refine aw_aload_n dX6_readsRow_46 2 rfl ?_
    refine aw_dup dX6_readsRow_47 rfl ?_
    refine aw_getI dX6_readsRow_48 fl_X6_327 (((sT.I A 0 24 (nI (p + 1))).TR hT).s 0 (by decide)) (((sT.I A 0 24 (nI (p + 1))).TR hT).n 0 (by decide)) ?_
    refine aw_topE ((mI_stI_o _ _ _ _ (by decide)).trans hu1) ?_
    refine aw_iconst (v := 1) dX6_readsRow_51 (by decide) ?_
    refine aw_iaddN u 1 dX6_readsRow_52 rfl rfl ?_
    refine aw_putI dX6_readsRow_53 fl_X6_327 (Or.inl rfl) (((sT.I A 0 24 (nI (p + 1))).TR hT).s 0 (by decide)) (((sT.I A 0 24 (nI (p + 1))).TR hT).n 0 (by decide)) ?_
    refine aw_aload_n dX6_readsRow_56 2 rfl ?_
    refine aw_iload_n dX6_readsRow_57 0 rfl ?_
    refine aw_iload_n dX6_readsRow_58 1 rfl ?_
    refine aw_bipush (v := 16) dX6_readsRow_59 (by decide) ?_
    refine aw_irem dX6_readsRow_61 (by decide) ?_
    refine aw_topE (rem16 (B p) hb) ?_
    refine aw_iconst (v := 0) dX6_readsRow_62 (by decide) ?_
    refine aw_callVv [.int (nI (12 + u)), .int (nI (B p % 16)), .int 0] [] (sp_X6_begins (d := d - 1) (by omega) (12 + u) (nI (B p % 16)) (nI 0) ((sT.I (stI A 0 24 (nI (p + 1))) 0 26 (nI (u + 1))).TR ((sT.I A 0 24 (nI (p + 1))).TR hT)) (by omega)) dX6_readsRow_63 ml_X6_155 im_X6_begins (((sT.I (stI A 0 24 (nI (p + 1))) 0 26 (nI (u + 1))).TR ((sT.I A 0 24 (nI (p + 1))).TR hT)).s 0 (by decide)) (((sT.I (stI A 0 24 (nI (p + 1))) 0 26 (nI (u + 1))).TR ((sT.I A 0 24 (nI (p + 1))).TR hT)).n 0 (by decide)) rfl rfl (dl1 (d := d) (by omega)) rfl rfl (Nat.le_of_ble_eq_true rfl) rfl rfl (Nat.zero_le _) (Nat.zero_le _) ?_
    refine aw_aload_n dX6_readsRow_66 2 rfl ?_
    refine aw_iconst (v := 0) dX6_readsRow_67 (by decide) ?_
    refine aw_bipush (v := 12) dX6_readsRow_68 (by decide) ?_
    refine aw_callVi [.int 0, .int 12] [] (sp_p1k (d := d - 1) (by omega) 0 12 hD3 hp3 (by omega) hf3 (by decide) (by decide) hc) dX6_readsRow_70 ml_X6_320 im_X6_part1 (((sT_X6_begins (stI (stI A 0 24 (nI (p + 1))) 0 26 (nI (u + 1))) (12 + u) (nI (B p % 16)) (nI 0)).TR ((sT.I (stI A 0 24 (nI (p + 1))) 0 26 (nI (u + 1))).TR ((sT.I A 0 24 (nI (p + 1))).TR hT))).s 0 (by decide)) (((sT_X6_begins (stI (stI A 0 24 (nI (p + 1))) 0 26 (nI (u + 1))) (12 + u) (nI (B p % 16)) (nI 0)).TR ((sT.I (stI A 0 24 (nI (p + 1))) 0 26 (nI (u + 1))).TR ((sT.I A 0 24 (nI (p + 1))).TR hT))).n 0 (by decide)) rfl rfl (dl1 (d := d) (by omega)) rfl rfl (Nat.le_of_ble_eq_true rfl) rfl rfl (Nat.zero_le _) (Nat.zero_le _) ?_
    refine aw_istore_n [(3, .int (nI (B (p + 1)))), (2, .int (nI (12 + u))), (1, .int (nI (B p))), (0, .ref 0)] dX6_readsRow_73 (Nat.le_of_ble_eq_true rfl) rfl ?_
    refine aw_iload_n dX6_readsRow_74 0 rfl ?_
    refine aw_if_ge 79 dX6_readsRow_75 (by decide) (fun c2 => ?_) (fun c2 => absurd (Int32.not_lt.mp (nI_nn (by omega))) c2)
    refine aw_aload_n dX6_readsRow_79 3 rfl ?_
    refine aw_getR (b := 2) dX6_readsRow_80 fl_X6_13 rfl (((sT.I (begM (stI (stI A 0 24 (nI (p + 1))) 0 26 (nI (u + 1))) (12 + u) (nI (B p % 16)) (nI 0)) 0 24 (nI (p + 1 + 1))).TR ((sT_X6_begins (stI (stI A 0 24 (nI (p + 1))) 0 26 (nI (u + 1))) (12 + u) (nI (B p % 16)) (nI 0)).TR ((sT.I (stI A 0 24 (nI (p + 1))) 0 26 (nI (u + 1))).TR ((sT.I A 0 24 (nI (p + 1))).TR hT)))).s 0 (by decide)) (((sT.I (begM (stI (stI A 0 24 (nI (p + 1))) 0 26 (nI (u + 1))) (12 + u) (nI (B p % 16)) (nI 0)) 0 24 (nI (p + 1 + 1))).TR ((sT_X6_begins (stI (stI A 0 24 (nI (p + 1))) 0 26 (nI (u + 1))) (12 + u) (nI (B p % 16)) (nI 0)).TR ((sT.I (stI A 0 24 (nI (p + 1))) 0 26 (nI (u + 1))).TR ((sT.I A 0 24 (nI (p + 1))).TR hT)))).n 0 (by decide)) (((sT.I (begM (stI (stI A 0 24 (nI (p + 1))) 0 26 (nI (u + 1))) (12 + u) (nI (B p % 16)) (nI 0)) 0 24 (nI (p + 1 + 1))).TR ((sT_X6_begins (stI (stI A 0 24 (nI (p + 1))) 0 26 (nI (u + 1))) (12 + u) (nI (B p % 16)) (nI 0)).TR ((sT.I (stI A 0 24 (nI (p + 1))) 0 26 (nI (u + 1))).TR ((sT.I A 0 24 (nI (p + 1))).TR hT)))).r 1) ?_
    refine aw_iload_n dX6_readsRow_83 1 rfl ?_
    refine aw_iload_n dX6_readsRow_84 0 rfl ?_
    refine aw_iastN (12 + u) dX6_readsRow_85 (((sT.I (begM (stI (stI A 0 24 (nI (p + 1))) 0 26 (nI (u + 1))) (12 + u) (nI (B p % 16)) (nI 0)) 0 24 (nI (p + 1 + 1))).TR ((sT_X6_begins (stI (stI A 0 24 (nI (p + 1))) 0 26 (nI (u + 1))) (12 + u) (nI (B p % 16)) (nI 0)).TR ((sT.I (stI A 0 24 (nI (p + 1))) 0 26 (nI (u + 1))).TR ((sT.I A 0 24 (nI (p + 1))).TR hT)))).s 2 (by decide)) (((sT.I (begM (stI (stI A 0 24 (nI (p + 1))) 0 26 (nI (u + 1))) (12 + u) (nI (B p % 16)) (nI 0)) 0 24 (nI (p + 1 + 1))).TR ((sT_X6_begins (stI (stI A 0 24 (nI (p + 1))) 0 26 (nI (u + 1))) (12 + u) (nI (B p % 16)) (nI 0)).TR ((sT.I (stI A 0 24 (nI (p + 1))) 0 26 (nI (u + 1))).TR ((sT.I A 0 24 (nI (p + 1))).TR hT)))).n 2 (by decide)) rfl (by omega) (by first | decide | omega) ?_
    refine aw_aload_n dX6_readsRow_86 3 rfl ?_
    refine aw_iload_n dX6_readsRow_87 1 rfl ?_
    refine aw_callVi [.int (nI (12 + u))] [] (sp_X6_isPlain (d := d - 1) (by omega) (nI (12 + u)) ((sT_nrM A p u (B p % 16) (B (p + 1)) (p + 1 + 1)).TR hT) (vp_in_nI (by omega) (by decide))) dX6_readsRow_88 ml_X6_183 im_X6_isPlain (((sT_nrM A p u (B p % 16) (B (p + 1)) (p + 1 + 1)).TR hT).s 0 (by decide)) (((sT_nrM A p u (B p % 16) (B (p + 1)) (p + 1 + 1)).TR hT).n 0 (by decide)) rfl rfl (dl1 (d := d) (by omega)) rfl rfl (Nat.le_of_ble_eq_true rfl) rfl rfl (Nat.zero_le _) (Nat.zero_le _) ?_
    refine aw_topE hpl4 ?_
    refine aw_if_ne 127 dX6_readsRow_91 (by decide) (fun c3 => ?_) (fun c3 => absurd c3 (by decide))
    refine aw_iload_n dX6_readsRow_127 2 rfl ?_
    refine aw_bipush (v := 32) dX6_readsRow_128 (by decide) ?_
    refine aw_icmp_geN (B p) 32 141 dX6_readsRow_130 (by decide) rfl rfl (by omega) (by omega) (fun c4 => ?_) (fun c4 => absurd (by omega) c4)
    refine aw_iload_n dX6_readsRow_141 2 rfl ?_
    refine aw_bipush (v := 48) dX6_readsRow_142 (by decide) ?_
    refine aw_icmp_geN (B p) 48 155 dX6_readsRow_144 (by decide) rfl rfl (by omega) (by omega) (fun c5 => absurd c5 (by omega)) (fun c5 => ?_)
    refine aw_aload_n dX6_readsRow_147 3 rfl ?_
    refine aw_iload_n dX6_readsRow_148 1 rfl ?_
    refine aw_callVx [.int (nI (12 + u))] [] hq dX6_readsRow_149 ml_X6_333 im_X6_readsRuns (((sT_nrM A p u (B p % 16) (B (p + 1)) (p + 1 + 1)).TR hT).s 0 (by decide)) (((sT_nrM A p u (B p % 16) (B (p + 1)) (p + 1 + 1)).TR hT).n 0 (by decide)) rfl rfl (dl1 (d := d) (by omega)) rfl rfl (Nat.le_of_ble_eq_true rfl) rfl rfl (Nat.zero_le _) (Nat.zero_le _) (fun r A1 hA1 => ?_)
    obtain ⟨rfl, hA1⟩ := hA1
    refine aw_nil ?_
    refine aw_goto 160 dX6_readsRow_152 (by decide) ?_
    refine aw_ret dX6_readsRow_160 rfl (Nat.zero_le _) (Nat.zero_le _) ?_
    exact QR_s hkp ⟨rfl, hA1⟩
  · rw [if_neg (by omega), if_pos c]
    have hq := sp_rS (d := d - 1) (by omega) hS h8 hC4 (by omega) z3 z1 z2 hWn
    refine aw_aload_n dX6_readsRow_0 0 rfl ?_
    refine aw_getI dX6_readsRow_1 fl_X6_327 (hT.s 0 (by decide)) (hT.n 0 (by decide)) ?_
    refine aw_topE hu1 ?_
    refine aw_bipush (v := 12) dX6_readsRow_4 (by decide) ?_
    refine aw_icmp_neN u 12 18 dX6_readsRow_6 (by decide) rfl rfl (by omega) (by omega) (fun c1 => ?_) (fun c1 => absurd c1 (by omega))
    refine aw_aload_n dX6_readsRow_18 0 rfl ?_
    refine aw_getR (b := 14) dX6_readsRow_19 fl_X6_54 rfl (hT.s 0 (by decide)) (hT.n 0 (by decide)) (hT.r 22) ?_
    refine aw_aload_n dX6_readsRow_22 0 rfl ?_
    refine aw_getI dX6_readsRow_23 fl_X6_289 (hT.s 0 (by decide)) (hT.n 0 (by decide)) ?_
    refine aw_topE hC.2.1 ?_
    refine aw_ialdN p dX6_readsRow_26 (hT.s 14 (by decide)) (hT.n 14 (by decide)) rfl (by omega) (by first | decide | omega) ?_
    refine aw_topE (hS0 p hpl).1 ?_
    refine aw_istore_n [(1, .int (nI (B p))), (0, .ref 0)] dX6_readsRow_27 (Nat.le_of_ble_eq_true rfl) rfl ?_
    refine aw_aload_n dX6_readsRow_28 1 rfl ?_
    refine aw_dup dX6_readsRow_29 rfl ?_
    refine aw_getI dX6_readsRow_30 fl_X6_289 (hT.s 0 (by decide)) (hT.n 0 (by decide)) ?_
    refine aw_topE hC.2.1 ?_
    refine aw_iconst (v := 1) dX6_readsRow_33 (by decide) ?_
    refine aw_iaddN p 1 dX6_readsRow_34 rfl rfl ?_
    refine aw_putI dX6_readsRow_35 fl_X6_289 (Or.inl rfl) (hT.s 0 (by decide)) (hT.n 0 (by decide)) ?_
    refine aw_bipush (v := 12) dX6_readsRow_38 (by decide) ?_
    refine aw_aload_n dX6_readsRow_40 1 rfl ?_
    refine aw_getI dX6_readsRow_41 fl_X6_327 (((sT.I A 0 24 (nI (p + 1))).TR hT).s 0 (by decide)) (((sT.I A 0 24 (nI (p + 1))).TR hT).n 0 (by decide)) ?_
    refine aw_topE ((mI_stI_o _ _ _ _ (by decide)).trans hu1) ?_
    refine aw_iaddN 12 u dX6_readsRow_44 rfl rfl ?_
    refine aw_istore_n [(2, .int (nI (12 + u))), (1, .int (nI (B p))), (0, .ref 0)] dX6_readsRow_45 (Nat.le_of_ble_eq_true rfl) rfl ?_
    refine aw_aload_n dX6_readsRow_46 2 rfl ?_
    refine aw_dup dX6_readsRow_47 rfl ?_
    refine aw_getI dX6_readsRow_48 fl_X6_327 (((sT.I A 0 24 (nI (p + 1))).TR hT).s 0 (by decide)) (((sT.I A 0 24 (nI (p + 1))).TR hT).n 0 (by decide)) ?_
    refine aw_topE ((mI_stI_o _ _ _ _ (by decide)).trans hu1) ?_
    refine aw_iconst (v := 1) dX6_readsRow_51 (by decide) ?_
    refine aw_iaddN u 1 dX6_readsRow_52 rfl rfl ?_
    refine aw_putI dX6_readsRow_53 fl_X6_327 (Or.inl rfl) (((sT.I A 0 24 (nI (p + 1))).TR hT).s 0 (by decide)) (((sT.I A 0 24 (nI (p + 1))).TR hT).n 0 (by decide)) ?_
    refine aw_aload_n dX6_readsRow_56 2 rfl ?_
    refine aw_iload_n dX6_readsRow_57 0 rfl ?_
    refine aw_iload_n dX6_readsRow_58 1 rfl ?_
    refine aw_bipush (v := 16) dX6_readsRow_59 (by decide) ?_
    refine aw_irem dX6_readsRow_61 (by decide) ?_
    refine aw_topE (rem16 (B p) hb) ?_
    refine aw_iconst (v := 0) dX6_readsRow_62 (by decide) ?_
    refine aw_callVv [.int (nI (12 + u)), .int (nI (B p % 16)), .int 0] [] (sp_X6_begins (d := d - 1) (by omega) (12 + u) (nI (B p % 16)) (nI 0) ((sT.I (stI A 0 24 (nI (p + 1))) 0 26 (nI (u + 1))).TR ((sT.I A 0 24 (nI (p + 1))).TR hT)) (by omega)) dX6_readsRow_63 ml_X6_155 im_X6_begins (((sT.I (stI A 0 24 (nI (p + 1))) 0 26 (nI (u + 1))).TR ((sT.I A 0 24 (nI (p + 1))).TR hT)).s 0 (by decide)) (((sT.I (stI A 0 24 (nI (p + 1))) 0 26 (nI (u + 1))).TR ((sT.I A 0 24 (nI (p + 1))).TR hT)).n 0 (by decide)) rfl rfl (dl1 (d := d) (by omega)) rfl rfl (Nat.le_of_ble_eq_true rfl) rfl rfl (Nat.zero_le _) (Nat.zero_le _) ?_
    refine aw_aload_n dX6_readsRow_66 2 rfl ?_
    refine aw_iconst (v := 0) dX6_readsRow_67 (by decide) ?_
    refine aw_bipush (v := 12) dX6_readsRow_68 (by decide) ?_
    refine aw_callVi [.int 0, .int 12] [] (sp_p1k (d := d - 1) (by omega) 0 12 hD3 hp3 (by omega) hf3 (by decide) (by decide) hc) dX6_readsRow_70 ml_X6_320 im_X6_part1 (((sT_X6_begins (stI (stI A 0 24 (nI (p + 1))) 0 26 (nI (u + 1))) (12 + u) (nI (B p % 16)) (nI 0)).TR ((sT.I (stI A 0 24 (nI (p + 1))) 0 26 (nI (u + 1))).TR ((sT.I A 0 24 (nI (p + 1))).TR hT))).s 0 (by decide)) (((sT_X6_begins (stI (stI A 0 24 (nI (p + 1))) 0 26 (nI (u + 1))) (12 + u) (nI (B p % 16)) (nI 0)).TR ((sT.I (stI A 0 24 (nI (p + 1))) 0 26 (nI (u + 1))).TR ((sT.I A 0 24 (nI (p + 1))).TR hT))).n 0 (by decide)) rfl rfl (dl1 (d := d) (by omega)) rfl rfl (Nat.le_of_ble_eq_true rfl) rfl rfl (Nat.zero_le _) (Nat.zero_le _) ?_
    refine aw_istore_n [(3, .int (nI (B (p + 1)))), (2, .int (nI (12 + u))), (1, .int (nI (B p))), (0, .ref 0)] dX6_readsRow_73 (Nat.le_of_ble_eq_true rfl) rfl ?_
    refine aw_iload_n dX6_readsRow_74 0 rfl ?_
    refine aw_if_ge 79 dX6_readsRow_75 (by decide) (fun c2 => ?_) (fun c2 => absurd (Int32.not_lt.mp (nI_nn (by omega))) c2)
    refine aw_aload_n dX6_readsRow_79 3 rfl ?_
    refine aw_getR (b := 2) dX6_readsRow_80 fl_X6_13 rfl (((sT.I (begM (stI (stI A 0 24 (nI (p + 1))) 0 26 (nI (u + 1))) (12 + u) (nI (B p % 16)) (nI 0)) 0 24 (nI (p + 1 + 1))).TR ((sT_X6_begins (stI (stI A 0 24 (nI (p + 1))) 0 26 (nI (u + 1))) (12 + u) (nI (B p % 16)) (nI 0)).TR ((sT.I (stI A 0 24 (nI (p + 1))) 0 26 (nI (u + 1))).TR ((sT.I A 0 24 (nI (p + 1))).TR hT)))).s 0 (by decide)) (((sT.I (begM (stI (stI A 0 24 (nI (p + 1))) 0 26 (nI (u + 1))) (12 + u) (nI (B p % 16)) (nI 0)) 0 24 (nI (p + 1 + 1))).TR ((sT_X6_begins (stI (stI A 0 24 (nI (p + 1))) 0 26 (nI (u + 1))) (12 + u) (nI (B p % 16)) (nI 0)).TR ((sT.I (stI A 0 24 (nI (p + 1))) 0 26 (nI (u + 1))).TR ((sT.I A 0 24 (nI (p + 1))).TR hT)))).n 0 (by decide)) (((sT.I (begM (stI (stI A 0 24 (nI (p + 1))) 0 26 (nI (u + 1))) (12 + u) (nI (B p % 16)) (nI 0)) 0 24 (nI (p + 1 + 1))).TR ((sT_X6_begins (stI (stI A 0 24 (nI (p + 1))) 0 26 (nI (u + 1))) (12 + u) (nI (B p % 16)) (nI 0)).TR ((sT.I (stI A 0 24 (nI (p + 1))) 0 26 (nI (u + 1))).TR ((sT.I A 0 24 (nI (p + 1))).TR hT)))).r 1) ?_
    refine aw_iload_n dX6_readsRow_83 1 rfl ?_
    refine aw_iload_n dX6_readsRow_84 0 rfl ?_
    refine aw_iastN (12 + u) dX6_readsRow_85 (((sT.I (begM (stI (stI A 0 24 (nI (p + 1))) 0 26 (nI (u + 1))) (12 + u) (nI (B p % 16)) (nI 0)) 0 24 (nI (p + 1 + 1))).TR ((sT_X6_begins (stI (stI A 0 24 (nI (p + 1))) 0 26 (nI (u + 1))) (12 + u) (nI (B p % 16)) (nI 0)).TR ((sT.I (stI A 0 24 (nI (p + 1))) 0 26 (nI (u + 1))).TR ((sT.I A 0 24 (nI (p + 1))).TR hT)))).s 2 (by decide)) (((sT.I (begM (stI (stI A 0 24 (nI (p + 1))) 0 26 (nI (u + 1))) (12 + u) (nI (B p % 16)) (nI 0)) 0 24 (nI (p + 1 + 1))).TR ((sT_X6_begins (stI (stI A 0 24 (nI (p + 1))) 0 26 (nI (u + 1))) (12 + u) (nI (B p % 16)) (nI 0)).TR ((sT.I (stI A 0 24 (nI (p + 1))) 0 26 (nI (u + 1))).TR ((sT.I A 0 24 (nI (p + 1))).TR hT)))).n 2 (by decide)) rfl (by omega) (by first | decide | omega) ?_
    refine aw_aload_n dX6_readsRow_86 3 rfl ?_
    refine aw_iload_n dX6_readsRow_87 1 rfl ?_
    refine aw_callVi [.int (nI (12 + u))] [] (sp_X6_isPlain (d := d - 1) (by omega) (nI (12 + u)) ((sT_nrM A p u (B p % 16) (B (p + 1)) (p + 1 + 1)).TR hT) (vp_in_nI (by omega) (by decide))) dX6_readsRow_88 ml_X6_183 im_X6_isPlain (((sT_nrM A p u (B p % 16) (B (p + 1)) (p + 1 + 1)).TR hT).s 0 (by decide)) (((sT_nrM A p u (B p % 16) (B (p + 1)) (p + 1 + 1)).TR hT).n 0 (by decide)) rfl rfl (dl1 (d := d) (by omega)) rfl rfl (Nat.le_of_ble_eq_true rfl) rfl rfl (Nat.zero_le _) (Nat.zero_le _) ?_
    refine aw_topE hpl4 ?_
    refine aw_if_ne 127 dX6_readsRow_91 (by decide) (fun c3 => ?_) (fun c3 => absurd c3 (by decide))
    refine aw_iload_n dX6_readsRow_127 2 rfl ?_
    refine aw_bipush (v := 32) dX6_readsRow_128 (by decide) ?_
    refine aw_icmp_geN (B p) 32 141 dX6_readsRow_130 (by decide) rfl rfl (by omega) (by omega) (fun c4 => ?_) (fun c4 => absurd (by omega) c4)
    refine aw_iload_n dX6_readsRow_141 2 rfl ?_
    refine aw_bipush (v := 48) dX6_readsRow_142 (by decide) ?_
    refine aw_icmp_geN (B p) 48 155 dX6_readsRow_144 (by decide) rfl rfl (by omega) (by omega) (fun c5 => ?_) (fun c5 => absurd (by omega) c5)
    refine aw_aload_n dX6_readsRow_155 3 rfl ?_
    refine aw_iload_n dX6_readsRow_156 1 rfl ?_
    refine aw_callVx [.int (nI (12 + u))] [] hq dX6_readsRow_157 ml_X6_336 im_X6_readsSteps (((sT_nrM A p u (B p % 16) (B (p + 1)) (p + 1 + 1)).TR hT).s 0 (by decide)) (((sT_nrM A p u (B p % 16) (B (p + 1)) (p + 1 + 1)).TR hT).n 0 (by decide)) rfl rfl (dl1 (d := d) (by omega)) rfl rfl (Nat.le_of_ble_eq_true rfl) rfl rfl (Nat.zero_le _) (Nat.zero_le _) (fun r A1 hA1 => ?_)
    obtain ⟨rfl, hA1⟩ := hA1
    refine aw_nil ?_
    refine aw_ret dX6_readsRow_160 rfl (Nat.zero_le _) (Nat.zero_le _) ?_
    exact QR_s hkp ⟨rfl, hA1⟩
theorem sp_rw_o {d : Nat} (hd : 4 ≤ d) {M0 A : xM} {B : Nat → Nat} {L p : Nat} {R : pR} (hS : RfS M0 B L) (hC : RS M0 p R A) (hpl : p < L) (htag : sX1_isArrayTag (nI (B p)) = true) (hu : R.1 < 12) (hc : p + 1 < L ∧ B (p + 1) ≤ 12) (h8 : ¬ B p % 16 < 8) {dp : Nat} (hdp : mI A 0 19 = nI dp) (hdl : dp < 13) : Sp (fX6_readsRow d) [.ref 0] A (dt none (puM (nrM A p R.1 (B p % 16) (B (p + 1)) (p + 1 + 1)) dp (12 + R.1))) := by
  refine Sp.of pn_X6 (Nat.le_of_ble_eq_true rfl) (fun h => Bool.noConfusion h) ?_
  have hL2 := hS.2.1
  have hD := hC.1.D hS
  have hT := hD.1
  have hu12 := hC.2.2.2.2.1
  have hS0 := hD.2.2.2
  have hb := (hS0 p hpl).2
  obtain ⟨u, eu⟩ : ∃ u, u = R.1 := ⟨_, rfl⟩
  have hu1 : mI A 0 26 = nI u := by rw [eu]; exact hC.2.2.2.1
  have hD3 : RfS (begM (stI (stI A 0 24 (nI (p + 1))) 0 26 (nI (u + 1))) (12 + u) (nI (B p % 16)) (nI 0)) B L := hD.k ((sT.I _ _ _ _).tr ((sT.I _ _ _ _).tr (sT_X6_begins _ _ _ _))) (by rw [begM_oI _ _ _ _ (Or.inl rfl), mI_stI_o _ _ _ _ (by decide), mI_stI_o _ _ _ _ (by decide)]) (by rw [begM_oI _ _ _ _ (Or.inr (by decide)), mI_stI_c _ _ _ (by decide), mI_stI_c _ _ _ (by decide)])
  have hp3 : mI (begM (stI (stI A 0 24 (nI (p + 1))) 0 26 (nI (u + 1))) (12 + u) (nI (B p % 16)) (nI 0)) 0 24 = nI (p + 1) := by rw [begM_oI _ _ _ _ (Or.inl rfl), mI_stI_o _ _ _ _ (by decide), mI_stI_v]
  have hf3 : mI (begM (stI (stI A 0 24 (nI (p + 1))) 0 26 (nI (u + 1))) (12 + u) (nI (B p % 16)) (nI 0)) 0 25 = -1 := by rw [begM_oI _ _ _ _ (Or.inl rfl), mI_stI_o _ _ _ _ (by decide), mI_stI_o _ _ _ _ (by decide)]; exact hC.2.2.1
  have hC4 := hC.new (k := B p % 16) (z := B (p + 1)) hu (tg_ok (B p) hb htag).2.1 hc.2 (p + 1 + 1)
  rw [← eu] at hC4
  have hc : p + 1 < L ∧ 0 ≤ B (p + 1) ∧ B (p + 1) ≤ 12 := by omega
  obtain ⟨tg1, tg2, tg3, tg4⟩ := tg_ok (B p) hb htag
  have z1 : rK (rNew R (B p % 16) (B (p + 1))) u = B p % 16 := by rw [eu]; exact if_pos rfl
  have z2 : rZ (rNew R (B p % 16) (B (p + 1))) u = B (p + 1) := by rw [eu]; exact if_pos rfl
  have z3 : u < (rNew R (B p % 16) (B (p + 1))).1 := by show u < R.1 + 1; omega
  have hk4 : mI (nrM A p u (B p % 16) (B (p + 1)) (p + 1 + 1)) 1 (12 + u) = nI (B p % 16) := by have q := (hC4.2.2.2.2.2 u z3).2.2.1; rw [z1] at q; exact q
  rw [← eu]
  have hdp4 : mI (nrM A p u (B p % 16) (B (p + 1)) (p + 1 + 1)) 0 19 = nI dp := (SK_nrM A p u (B p % 16) (B (p + 1)) (p + 1 + 1)).1.trans hdp
  have hpl4 : bz (sX6_isPlain (nrM A p u (B p % 16) (B (p + 1)) (p + 1 + 1)) (nI (12 + u))) = 0 := by
    unfold sX6_isPlain
    rw [nI_clamp (by omega), hk4, if_pos (show (8 : Int32) ≤ nI (B p % 16) from (E32 (n := 8) (m := B p % 16) (by decide) (by omega)).mpr (by omega))]
    rfl
  refine aw_aload_n dX6_readsRow_0 0 rfl ?_
  refine aw_getI dX6_readsRow_1 fl_X6_327 (hT.s 0 (by decide)) (hT.n 0 (by decide)) ?_
  refine aw_topE hu1 ?_
  refine aw_bipush (v := 12) dX6_readsRow_4 (by decide) ?_
  refine aw_icmp_neN u 12 18 dX6_readsRow_6 (by decide) rfl rfl (by omega) (by omega) (fun c1 => ?_) (fun c1 => absurd c1 (by omega))
  refine aw_aload_n dX6_readsRow_18 0 rfl ?_
  refine aw_getR (b := 14) dX6_readsRow_19 fl_X6_54 rfl (hT.s 0 (by decide)) (hT.n 0 (by decide)) (hT.r 22) ?_
  refine aw_aload_n dX6_readsRow_22 0 rfl ?_
  refine aw_getI dX6_readsRow_23 fl_X6_289 (hT.s 0 (by decide)) (hT.n 0 (by decide)) ?_
  refine aw_topE hC.2.1 ?_
  refine aw_ialdN p dX6_readsRow_26 (hT.s 14 (by decide)) (hT.n 14 (by decide)) rfl (by omega) (by first | decide | omega) ?_
  refine aw_topE (hS0 p hpl).1 ?_
  refine aw_istore_n [(1, .int (nI (B p))), (0, .ref 0)] dX6_readsRow_27 (Nat.le_of_ble_eq_true rfl) rfl ?_
  refine aw_aload_n dX6_readsRow_28 1 rfl ?_
  refine aw_dup dX6_readsRow_29 rfl ?_
  refine aw_getI dX6_readsRow_30 fl_X6_289 (hT.s 0 (by decide)) (hT.n 0 (by decide)) ?_
  refine aw_topE hC.2.1 ?_
  refine aw_iconst (v := 1) dX6_readsRow_33 (by decide) ?_
  refine aw_iaddN p 1 dX6_readsRow_34 rfl rfl ?_
  refine aw_putI dX6_readsRow_35 fl_X6_289 (Or.inl rfl) (hT.s 0 (by decide)) (hT.n 0 (by decide)) ?_
  refine aw_bipush (v := 12) dX6_readsRow_38 (by decide) ?_
  refine aw_aload_n dX6_readsRow_40 1 rfl ?_
  refine aw_getI dX6_readsRow_41 fl_X6_327 (((sT.I A 0 24 (nI (p + 1))).TR hT).s 0 (by decide)) (((sT.I A 0 24 (nI (p + 1))).TR hT).n 0 (by decide)) ?_
  refine aw_topE ((mI_stI_o _ _ _ _ (by decide)).trans hu1) ?_
  refine aw_iaddN 12 u dX6_readsRow_44 rfl rfl ?_
  refine aw_istore_n [(2, .int (nI (12 + u))), (1, .int (nI (B p))), (0, .ref 0)] dX6_readsRow_45 (Nat.le_of_ble_eq_true rfl) rfl ?_
  refine aw_aload_n dX6_readsRow_46 2 rfl ?_
  refine aw_dup dX6_readsRow_47 rfl ?_
  refine aw_getI dX6_readsRow_48 fl_X6_327 (((sT.I A 0 24 (nI (p + 1))).TR hT).s 0 (by decide)) (((sT.I A 0 24 (nI (p + 1))).TR hT).n 0 (by decide)) ?_
  refine aw_topE ((mI_stI_o _ _ _ _ (by decide)).trans hu1) ?_
  refine aw_iconst (v := 1) dX6_readsRow_51 (by decide) ?_
  refine aw_iaddN u 1 dX6_readsRow_52 rfl rfl ?_
  refine aw_putI dX6_readsRow_53 fl_X6_327 (Or.inl rfl) (((sT.I A 0 24 (nI (p + 1))).TR hT).s 0 (by decide)) (((sT.I A 0 24 (nI (p + 1))).TR hT).n 0 (by decide)) ?_
  refine aw_aload_n dX6_readsRow_56 2 rfl ?_
  refine aw_iload_n dX6_readsRow_57 0 rfl ?_
  refine aw_iload_n dX6_readsRow_58 1 rfl ?_
  refine aw_bipush (v := 16) dX6_readsRow_59 (by decide) ?_
  refine aw_irem dX6_readsRow_61 (by decide) ?_
  refine aw_topE (rem16 (B p) hb) ?_
  refine aw_iconst (v := 0) dX6_readsRow_62 (by decide) ?_
  refine aw_callVv [.int (nI (12 + u)), .int (nI (B p % 16)), .int 0] [] (sp_X6_begins (d := d - 1) (by omega) (12 + u) (nI (B p % 16)) (nI 0) ((sT.I (stI A 0 24 (nI (p + 1))) 0 26 (nI (u + 1))).TR ((sT.I A 0 24 (nI (p + 1))).TR hT)) (by omega)) dX6_readsRow_63 ml_X6_155 im_X6_begins (((sT.I (stI A 0 24 (nI (p + 1))) 0 26 (nI (u + 1))).TR ((sT.I A 0 24 (nI (p + 1))).TR hT)).s 0 (by decide)) (((sT.I (stI A 0 24 (nI (p + 1))) 0 26 (nI (u + 1))).TR ((sT.I A 0 24 (nI (p + 1))).TR hT)).n 0 (by decide)) rfl rfl (dl1 (d := d) (by omega)) rfl rfl (Nat.le_of_ble_eq_true rfl) rfl rfl (Nat.zero_le _) (Nat.zero_le _) ?_
  refine aw_aload_n dX6_readsRow_66 2 rfl ?_
  refine aw_iconst (v := 0) dX6_readsRow_67 (by decide) ?_
  refine aw_bipush (v := 12) dX6_readsRow_68 (by decide) ?_
  refine aw_callVi [.int 0, .int 12] [] (sp_p1k (d := d - 1) (by omega) 0 12 hD3 hp3 (by omega) hf3 (by decide) (by decide) hc) dX6_readsRow_70 ml_X6_320 im_X6_part1 (((sT_X6_begins (stI (stI A 0 24 (nI (p + 1))) 0 26 (nI (u + 1))) (12 + u) (nI (B p % 16)) (nI 0)).TR ((sT.I (stI A 0 24 (nI (p + 1))) 0 26 (nI (u + 1))).TR ((sT.I A 0 24 (nI (p + 1))).TR hT))).s 0 (by decide)) (((sT_X6_begins (stI (stI A 0 24 (nI (p + 1))) 0 26 (nI (u + 1))) (12 + u) (nI (B p % 16)) (nI 0)).TR ((sT.I (stI A 0 24 (nI (p + 1))) 0 26 (nI (u + 1))).TR ((sT.I A 0 24 (nI (p + 1))).TR hT))).n 0 (by decide)) rfl rfl (dl1 (d := d) (by omega)) rfl rfl (Nat.le_of_ble_eq_true rfl) rfl rfl (Nat.zero_le _) (Nat.zero_le _) ?_
  refine aw_istore_n [(3, .int (nI (B (p + 1)))), (2, .int (nI (12 + u))), (1, .int (nI (B p))), (0, .ref 0)] dX6_readsRow_73 (Nat.le_of_ble_eq_true rfl) rfl ?_
  refine aw_iload_n dX6_readsRow_74 0 rfl ?_
  refine aw_if_ge 79 dX6_readsRow_75 (by decide) (fun c2 => ?_) (fun c2 => absurd (Int32.not_lt.mp (nI_nn (by omega))) c2)
  refine aw_aload_n dX6_readsRow_79 3 rfl ?_
  refine aw_getR (b := 2) dX6_readsRow_80 fl_X6_13 rfl (((sT.I (begM (stI (stI A 0 24 (nI (p + 1))) 0 26 (nI (u + 1))) (12 + u) (nI (B p % 16)) (nI 0)) 0 24 (nI (p + 1 + 1))).TR ((sT_X6_begins (stI (stI A 0 24 (nI (p + 1))) 0 26 (nI (u + 1))) (12 + u) (nI (B p % 16)) (nI 0)).TR ((sT.I (stI A 0 24 (nI (p + 1))) 0 26 (nI (u + 1))).TR ((sT.I A 0 24 (nI (p + 1))).TR hT)))).s 0 (by decide)) (((sT.I (begM (stI (stI A 0 24 (nI (p + 1))) 0 26 (nI (u + 1))) (12 + u) (nI (B p % 16)) (nI 0)) 0 24 (nI (p + 1 + 1))).TR ((sT_X6_begins (stI (stI A 0 24 (nI (p + 1))) 0 26 (nI (u + 1))) (12 + u) (nI (B p % 16)) (nI 0)).TR ((sT.I (stI A 0 24 (nI (p + 1))) 0 26 (nI (u + 1))).TR ((sT.I A 0 24 (nI (p + 1))).TR hT)))).n 0 (by decide)) (((sT.I (begM (stI (stI A 0 24 (nI (p + 1))) 0 26 (nI (u + 1))) (12 + u) (nI (B p % 16)) (nI 0)) 0 24 (nI (p + 1 + 1))).TR ((sT_X6_begins (stI (stI A 0 24 (nI (p + 1))) 0 26 (nI (u + 1))) (12 + u) (nI (B p % 16)) (nI 0)).TR ((sT.I (stI A 0 24 (nI (p + 1))) 0 26 (nI (u + 1))).TR ((sT.I A 0 24 (nI (p + 1))).TR hT)))).r 1) ?_
  refine aw_iload_n dX6_readsRow_83 1 rfl ?_
  refine aw_iload_n dX6_readsRow_84 0 rfl ?_
  refine aw_iastN (12 + u) dX6_readsRow_85 (((sT.I (begM (stI (stI A 0 24 (nI (p + 1))) 0 26 (nI (u + 1))) (12 + u) (nI (B p % 16)) (nI 0)) 0 24 (nI (p + 1 + 1))).TR ((sT_X6_begins (stI (stI A 0 24 (nI (p + 1))) 0 26 (nI (u + 1))) (12 + u) (nI (B p % 16)) (nI 0)).TR ((sT.I (stI A 0 24 (nI (p + 1))) 0 26 (nI (u + 1))).TR ((sT.I A 0 24 (nI (p + 1))).TR hT)))).s 2 (by decide)) (((sT.I (begM (stI (stI A 0 24 (nI (p + 1))) 0 26 (nI (u + 1))) (12 + u) (nI (B p % 16)) (nI 0)) 0 24 (nI (p + 1 + 1))).TR ((sT_X6_begins (stI (stI A 0 24 (nI (p + 1))) 0 26 (nI (u + 1))) (12 + u) (nI (B p % 16)) (nI 0)).TR ((sT.I (stI A 0 24 (nI (p + 1))) 0 26 (nI (u + 1))).TR ((sT.I A 0 24 (nI (p + 1))).TR hT)))).n 2 (by decide)) rfl (by omega) (by first | decide | omega) ?_
  refine aw_aload_n dX6_readsRow_86 3 rfl ?_
  refine aw_iload_n dX6_readsRow_87 1 rfl ?_
  refine aw_callVi [.int (nI (12 + u))] [] (sp_X6_isPlain (d := d - 1) (by omega) (nI (12 + u)) ((sT_nrM A p u (B p % 16) (B (p + 1)) (p + 1 + 1)).TR hT) (vp_in_nI (by omega) (by decide))) dX6_readsRow_88 ml_X6_183 im_X6_isPlain (((sT_nrM A p u (B p % 16) (B (p + 1)) (p + 1 + 1)).TR hT).s 0 (by decide)) (((sT_nrM A p u (B p % 16) (B (p + 1)) (p + 1 + 1)).TR hT).n 0 (by decide)) rfl rfl (dl1 (d := d) (by omega)) rfl rfl (Nat.le_of_ble_eq_true rfl) rfl rfl (Nat.zero_le _) (Nat.zero_le _) ?_
  refine aw_topE hpl4 ?_
  refine aw_if_ne 127 dX6_readsRow_91 (by decide) (fun c3 => absurd rfl c3) (fun c3 => ?_)
  refine aw_aload_n dX6_readsRow_94 3 rfl ?_
  refine aw_getR (b := 12) dX6_readsRow_95 fl_X6_48 rfl (((sT_nrM A p u (B p % 16) (B (p + 1)) (p + 1 + 1)).TR hT).s 0 (by decide)) (((sT_nrM A p u (B p % 16) (B (p + 1)) (p + 1 + 1)).TR hT).n 0 (by decide)) (((sT_nrM A p u (B p % 16) (B (p + 1)) (p + 1 + 1)).TR hT).r 20) ?_
  refine aw_aload_n dX6_readsRow_98 3 rfl ?_
  refine aw_getI dX6_readsRow_99 fl_X6_267 (((sT_nrM A p u (B p % 16) (B (p + 1)) (p + 1 + 1)).TR hT).s 0 (by decide)) (((sT_nrM A p u (B p % 16) (B (p + 1)) (p + 1 + 1)).TR hT).n 0 (by decide)) ?_
  refine aw_topE hdp4 ?_
  refine aw_iload_n dX6_readsRow_102 1 rfl ?_
  refine aw_iastN dp dX6_readsRow_103 (((sT_nrM A p u (B p % 16) (B (p + 1)) (p + 1 + 1)).TR hT).s 12 (by decide)) (((sT_nrM A p u (B p % 16) (B (p + 1)) (p + 1 + 1)).TR hT).n 12 (by decide)) rfl (by omega) (by first | decide | omega) ?_
  refine aw_aload_n dX6_readsRow_104 3 rfl ?_
  refine aw_getR (b := 13) dX6_readsRow_105 fl_X6_51 rfl (((sT.I (nrM A p u (B p % 16) (B (p + 1)) (p + 1 + 1)) 12 dp (nI (12 + u))).TR ((sT_nrM A p u (B p % 16) (B (p + 1)) (p + 1 + 1)).TR hT)).s 0 (by decide)) (((sT.I (nrM A p u (B p % 16) (B (p + 1)) (p + 1 + 1)) 12 dp (nI (12 + u))).TR ((sT_nrM A p u (B p % 16) (B (p + 1)) (p + 1 + 1)).TR hT)).n 0 (by decide)) (((sT.I (nrM A p u (B p % 16) (B (p + 1)) (p + 1 + 1)) 12 dp (nI (12 + u))).TR ((sT_nrM A p u (B p % 16) (B (p + 1)) (p + 1 + 1)).TR hT)).r 21) ?_
  refine aw_aload_n dX6_readsRow_108 3 rfl ?_
  refine aw_getI dX6_readsRow_109 fl_X6_267 (((sT.I (nrM A p u (B p % 16) (B (p + 1)) (p + 1 + 1)) 12 dp (nI (12 + u))).TR ((sT_nrM A p u (B p % 16) (B (p + 1)) (p + 1 + 1)).TR hT)).s 0 (by decide)) (((sT.I (nrM A p u (B p % 16) (B (p + 1)) (p + 1 + 1)) 12 dp (nI (12 + u))).TR ((sT_nrM A p u (B p % 16) (B (p + 1)) (p + 1 + 1)).TR hT)).n 0 (by decide)) ?_
  refine aw_topE ((congrFun (mI_stI_c _ _ _ (by decide)) 19).trans hdp4) ?_
  refine aw_iconst (v := 0) dX6_readsRow_112 (by decide) ?_
  refine aw_iastN dp dX6_readsRow_113 (((sT.I (nrM A p u (B p % 16) (B (p + 1)) (p + 1 + 1)) 12 dp (nI (12 + u))).TR ((sT_nrM A p u (B p % 16) (B (p + 1)) (p + 1 + 1)).TR hT)).s 13 (by decide)) (((sT.I (nrM A p u (B p % 16) (B (p + 1)) (p + 1 + 1)) 12 dp (nI (12 + u))).TR ((sT_nrM A p u (B p % 16) (B (p + 1)) (p + 1 + 1)).TR hT)).n 13 (by decide)) rfl (by omega) (by first | decide | omega) ?_
  refine aw_aload_n dX6_readsRow_114 3 rfl ?_
  refine aw_dup dX6_readsRow_115 rfl ?_
  refine aw_getI dX6_readsRow_116 fl_X6_267 (((sT.I (stI (nrM A p u (B p % 16) (B (p + 1)) (p + 1 + 1)) 12 dp (nI (12 + u))) 13 dp 0).TR ((sT.I (nrM A p u (B p % 16) (B (p + 1)) (p + 1 + 1)) 12 dp (nI (12 + u))).TR ((sT_nrM A p u (B p % 16) (B (p + 1)) (p + 1 + 1)).TR hT))).s 0 (by decide)) (((sT.I (stI (nrM A p u (B p % 16) (B (p + 1)) (p + 1 + 1)) 12 dp (nI (12 + u))) 13 dp 0).TR ((sT.I (nrM A p u (B p % 16) (B (p + 1)) (p + 1 + 1)) 12 dp (nI (12 + u))).TR ((sT_nrM A p u (B p % 16) (B (p + 1)) (p + 1 + 1)).TR hT))).n 0 (by decide)) ?_
  refine aw_topE ((congrFun (mI_stI_c _ _ _ (by decide)) 19).trans ((congrFun (mI_stI_c _ _ _ (by decide)) 19).trans hdp4)) ?_
  refine aw_iconst (v := 1) dX6_readsRow_119 (by decide) ?_
  refine aw_iaddN dp 1 dX6_readsRow_120 rfl rfl ?_
  refine aw_putI dX6_readsRow_121 fl_X6_267 (Or.inl rfl) (((sT.I (stI (nrM A p u (B p % 16) (B (p + 1)) (p + 1 + 1)) 12 dp (nI (12 + u))) 13 dp 0).TR ((sT.I (nrM A p u (B p % 16) (B (p + 1)) (p + 1 + 1)) 12 dp (nI (12 + u))).TR ((sT_nrM A p u (B p % 16) (B (p + 1)) (p + 1 + 1)).TR hT))).s 0 (by decide)) (((sT.I (stI (nrM A p u (B p % 16) (B (p + 1)) (p + 1 + 1)) 12 dp (nI (12 + u))) 13 dp 0).TR ((sT.I (nrM A p u (B p % 16) (B (p + 1)) (p + 1 + 1)) 12 dp (nI (12 + u))).TR ((sT_nrM A p u (B p % 16) (B (p + 1)) (p + 1 + 1)).TR hT))).n 0 (by decide)) ?_
  refine aw_goto 160 dX6_readsRow_124 (by decide) ?_
  refine aw_ret dX6_readsRow_160 rfl (Nat.zero_le _) (Nat.zero_le _) ?_
  exact ⟨rfl, rfl⟩
