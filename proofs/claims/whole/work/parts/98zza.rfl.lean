-- THE REFERENCE READS BYTES AND NUMBERS
def RfS (M : xM) (B : Nat → Nat) (L : Nat) : Prop := TR M ∧ L ≤ 200 ∧ mI M 0 23 = nI L ∧ ∀ i, i < L → mI M 14 i = nI (B i) ∧ B i < 256
theorem RfS.k {M M' : xM} {B : Nat → Nat} {L : Nat} (h : RfS M B L) (hT : sT M M') (h0 : mI M' 0 23 = mI M 0 23) (h14 : mI M' 14 = mI M 14) : RfS M' B L := ⟨hT.TR h.1, h.2.1, h0.trans h.2.2.1, fun i hi => by rw [h14]; exact h.2.2.2 i hi⟩
theorem RfS.i {M : xM} {B : Nat → Nat} {L : Nat} (h : RfS M B L) (k : Nat) (x : Int32) (hk : k ≠ 23) : RfS (stI M 0 k x) B L := h.k ⟨rfl, rfl, rfl⟩ (mI_stI_o _ _ _ _ (Ne.symm hk)) (mI_stI_c _ _ _ (by decide))
def FE (M : xM) (f : Nat) (A : xM) : Prop := sT M A ∧ mL A = mL M ∧ (∀ x, x ≠ 0 → mI A x = mI M x) ∧ (∀ k, k ≠ 24 → k ≠ 25 → mI A 0 k = mI M 0 k) ∧ mI A 0 25 = nI f
def QL (M : xM) (q : pV) : Option Value → xM → Prop := fun r A => match q with
  | .ok vp => r = some (.long vp.1) ∧ A = stI M 0 24 (nI vp.2)
  | .error f => (∃ y, r = some (.long y)) ∧ FE M f A
theorem FE.s {M A : xM} {f : Nat} (h : FE M f A) (x : Int32) : FE M f (stI A 0 24 x) := ⟨h.1.tr ⟨rfl, rfl, rfl⟩, h.2.1, fun y hy => (mI_stI_c _ _ _ hy).trans (h.2.2.1 y hy), fun k a b => (mI_stI_o _ _ _ _ a).trans (h.2.2.2.1 k a b), (mI_stI_o _ _ _ _ (by decide)).trans h.2.2.2.2⟩
theorem FE_f (M : xM) (f : Nat) : FE M f (stI M 0 25 (nI f)) := ⟨⟨rfl, rfl, rfl⟩, rfl, fun y hy => mI_stI_c _ _ _ hy, fun k a b => mI_stI_o _ _ _ _ b, mI_stI_v _ _ _ _⟩
theorem FE_a {M A : xM} {x : Int32} {f : Nat} (h : FE (stI M 0 24 x) f A) : FE M f A := ⟨(show sT M (stI M 0 24 x) from ⟨rfl, rfl, rfl⟩).tr h.1, h.2.1, fun y hy => (h.2.2.1 y hy).trans (mI_stI_c _ _ _ hy), fun k a b => (h.2.2.2.1 k a b).trans (mI_stI_o _ _ _ _ a), h.2.2.2.2⟩
theorem stI_2 (M : xM) (a k : Nat) (x y : Int32) : stI (stI M a k x) a k y = stI M a k y := by
  show (xup (xup M.1 a k x) a k y, M.2) = _
  rw [xup_2]
  rfl
theorem QL_a {M : xM} {x : Int32} {q : pV} {r : Option Value} {A : xM} (h : QL (stI M 0 24 x) q r A) : QL M q r A := by
  cases q with
  | error f => exact ⟨h.1, FE_a h.2⟩
  | ok vp => exact ⟨h.1, h.2.trans (stI_2 M 0 24 x _)⟩
theorem sp_by {d : Nat} {M : xM} {B : Nat → Nat} {L : Nat} {p : Nat} (hS : RfS M B L) (hp : p < L) : Sp (fX6_byteAt d) [.ref 0, .int (nI p)] M (dt (some (.int (nI (B p)))) M) := by
  refine Sp.of pn_X6 (Nat.le_of_ble_eq_true rfl) (fun h => Bool.noConfusion h) ?_
  have hL2 := hS.2.1
  refine aw_iload_n dX6_byteAt_0 1 rfl ?_
  refine aw_aload_n dX6_byteAt_1 0 rfl ?_
  refine aw_getI dX6_byteAt_2 fl_X6_286 (hS.1.s 0 (by decide)) (hS.1.n 0 (by decide)) ?_
  refine aw_topE hS.2.2.1 ?_
  refine aw_icmp_geN p L 17 dX6_byteAt_5 (by decide) rfl rfl (by omega) (by omega) (fun c1 => absurd c1 (by omega)) (fun c1 => ?_)
  refine aw_aload_n dX6_byteAt_8 0 rfl ?_
  refine aw_getR (b := 14) dX6_byteAt_9 fl_X6_54 rfl (hS.1.s 0 (by decide)) (hS.1.n 0 (by decide)) (hS.1.r 22) ?_
  refine aw_iload_n dX6_byteAt_12 1 rfl ?_
  refine aw_ialdN p dX6_byteAt_13 (hS.1.s 14 (by decide)) (hS.1.n 14 (by decide)) rfl (by omega) (by first | decide | omega) ?_
  refine aw_topE (hS.2.2.2 p hp).1 ?_
  refine aw_goto 18 dX6_byteAt_14 (by decide) ?_
  refine aw_iret dX6_byteAt_18 rfl (Nat.zero_le _) (Nat.zero_le _) ?_
  exact ⟨rfl, rfl⟩
theorem sp_byn {d : Nat} {M : xM} {B : Nat → Nat} {L : Nat} {p : Nat} (hS : RfS M B L) (hp : ¬ p < L) (hp2 : p < 2 ^ 31) : Sp (fX6_byteAt d) [.ref 0, .int (nI p)] M (dt (some (.int (-1))) M) := by
  refine Sp.of pn_X6 (Nat.le_of_ble_eq_true rfl) (fun h => Bool.noConfusion h) ?_
  have hL2 := hS.2.1
  refine aw_iload_n dX6_byteAt_0 1 rfl ?_
  refine aw_aload_n dX6_byteAt_1 0 rfl ?_
  refine aw_getI dX6_byteAt_2 fl_X6_286 (hS.1.s 0 (by decide)) (hS.1.n 0 (by decide)) ?_
  refine aw_topE hS.2.2.1 ?_
  refine aw_icmp_geN p L 17 dX6_byteAt_5 (by decide) rfl rfl (by omega) (by omega) (fun c1 => ?_) (fun c1 => absurd (by omega) c1)
  refine aw_iconst (v := -1) dX6_byteAt_17 (by decide) ?_
  refine aw_iret dX6_byteAt_18 rfl (Nat.zero_le _) (Nat.zero_le _) ?_
  exact ⟨rfl, rfl⟩
theorem sp_fa {d : Nat} {M : xM} (x : Int32) (hT : TR M) (hf : mI M 0 25 = -1) : Sp (fX6_faults d) [.ref 0, .int x] M (dt none (stI M 0 25 x)) := by
  refine Sp.of pn_X6 (Nat.le_of_ble_eq_true rfl) (fun h => Bool.noConfusion h) ?_
  refine aw_aload_n dX6_faults_0 0 rfl ?_
  refine aw_getI dX6_faults_1 fl_X6_283 (hT.s 0 (by decide)) (hT.n 0 (by decide)) ?_
  refine aw_topE hf ?_
  refine aw_if_ge 12 dX6_faults_4 (by decide) (fun c1 => absurd c1 (by decide)) (fun c1 => ?_)
  refine aw_aload_n dX6_faults_7 0 rfl ?_
  refine aw_iload_n dX6_faults_8 1 rfl ?_
  refine aw_putI dX6_faults_9 fl_X6_283 (Or.inl rfl) (hT.s 0 (by decide)) (hT.n 0 (by decide)) ?_
  refine aw_ret dX6_faults_12 rfl (Nat.zero_le _) (Nat.zero_le _) ?_
  exact ⟨rfl, rfl⟩
theorem sp_fa2 {d : Nat} {M : xM} (x : Int32) {f : Nat} (hT : TR M) (hf : mI M 0 25 = nI f) (hf2 : f < 2 ^ 31) : Sp (fX6_faults d) [.ref 0, .int x] M (dt none M) := by
  refine Sp.of pn_X6 (Nat.le_of_ble_eq_true rfl) (fun h => Bool.noConfusion h) ?_
  refine aw_aload_n dX6_faults_0 0 rfl ?_
  refine aw_getI dX6_faults_1 fl_X6_283 (hT.s 0 (by decide)) (hT.n 0 (by decide)) ?_
  refine aw_topE hf ?_
  refine aw_if_ge 12 dX6_faults_4 (by decide) (fun c1 => ?_) (fun c1 => absurd (Int32.not_lt.mp (nI_nn hf2)) c1)
  refine aw_ret dX6_faults_12 rfl (Nat.zero_le _) (Nat.zero_le _) ?_
  exact ⟨rfl, rfl⟩
theorem sp_p1k {d : Nat} (hd : 1 ≤ d) {M : xM} {B : Nat → Nat} {L : Nat} {p : Nat} (lo hi : Nat) (hS : RfS M B L) (hp : mI M 0 24 = nI p) (hpl : p ≤ L) (hf0 : mI M 0 25 = -1) (hlo : lo < 1000) (hhi : hi < 1000) (hc : p < L ∧ lo ≤ B p ∧ B p ≤ hi) : Sp (fX6_part1 d) [.ref 0, .int (nI lo), .int (nI hi)] M (dt (some (.int (nI (B p)))) (stI M 0 24 (nI (p + 1)))) := by
  refine Sp.of pn_X6 (Nat.le_of_ble_eq_true rfl) (fun h => Bool.noConfusion h) ?_
  have hL2 := hS.2.1
  have hb := (hS.2.2.2 p hc.1).2
  refine aw_aload_n dX6_part1_0 0 rfl ?_
  refine aw_aload_n dX6_part1_1 0 rfl ?_
  refine aw_getI dX6_part1_2 fl_X6_289 (hS.1.s 0 (by decide)) (hS.1.n 0 (by decide)) ?_
  refine aw_topE hp ?_
  refine aw_callVi [.int (nI p)] [] (sp_by (d := d - 1) hS hc.1) dX6_part1_5 ml_X6_292 im_X6_byteAt (hS.1.s 0 (by decide)) (hS.1.n 0 (by decide)) rfl rfl (dl1 (d := d) (by omega)) rfl rfl (Nat.le_of_ble_eq_true rfl) rfl rfl (Nat.zero_le _) (Nat.zero_le _) ?_
  refine aw_istore_n [(3, .int (nI (B p))), (0, .ref 0), (1, .int (nI lo)), (2, .int (nI hi))] dX6_part1_8 (Nat.le_of_ble_eq_true rfl) rfl ?_
  refine aw_iload_n dX6_part1_9 0 rfl ?_
  refine aw_iload_n dX6_part1_10 2 rfl ?_
  refine aw_icmp_ltN (B p) lo 19 dX6_part1_11 (by decide) rfl rfl (by omega) (by omega) (fun c1 => absurd c1 (by omega)) (fun c1 => ?_)
  refine aw_iload_n dX6_part1_14 0 rfl ?_
  refine aw_iload_n dX6_part1_15 3 rfl ?_
  refine aw_icmp_leN (B p) hi 29 dX6_part1_16 (by decide) rfl rfl (by omega) (by omega) (fun c2 => ?_) (fun c2 => absurd (by omega) c2)
  refine aw_aload_n dX6_part1_29 1 rfl ?_
  refine aw_dup dX6_part1_30 rfl ?_
  refine aw_getI dX6_part1_31 fl_X6_289 (hS.1.s 0 (by decide)) (hS.1.n 0 (by decide)) ?_
  refine aw_topE hp ?_
  refine aw_iconst (v := 1) dX6_part1_34 (by decide) ?_
  refine aw_iaddN p 1 dX6_part1_35 rfl rfl ?_
  refine aw_putI dX6_part1_36 fl_X6_289 (Or.inl rfl) (hS.1.s 0 (by decide)) (hS.1.n 0 (by decide)) ?_
  refine aw_iload_n dX6_part1_39 0 rfl ?_
  refine aw_iret dX6_part1_40 rfl (Nat.zero_le _) (Nat.zero_le _) ?_
  exact ⟨rfl, rfl⟩
theorem sp_p1f {d : Nat} (hd : 1 ≤ d) {M : xM} {B : Nat → Nat} {L : Nat} {p : Nat} (lo hi : Nat) (hS : RfS M B L) (hp : mI M 0 24 = nI p) (hpl : p ≤ L) (hf0 : mI M 0 25 = -1) (hlo : lo < 1000) (hhi : hi < 1000) (hc : ¬ (p < L ∧ lo ≤ B p ∧ B p ≤ hi)) : Sp (fX6_part1 d) [.ref 0, .int (nI lo), .int (nI hi)] M (dt (some (.int (-1))) (stI M 0 25 (nI p))) := by
  refine Sp.of pn_X6 (Nat.le_of_ble_eq_true rfl) (fun h => Bool.noConfusion h) ?_
  have hL2 := hS.2.1
  by_cases cl : p < L
  · have hb := (hS.2.2.2 p cl).2
    by_cases b1 : lo ≤ B p
    · have b2 : ¬ B p ≤ hi := fun z => hc ⟨cl, b1, z⟩
      refine aw_aload_n dX6_part1_0 0 rfl ?_
      refine aw_aload_n dX6_part1_1 0 rfl ?_
      refine aw_getI dX6_part1_2 fl_X6_289 (hS.1.s 0 (by decide)) (hS.1.n 0 (by decide)) ?_
      refine aw_topE hp ?_
      refine aw_callVi [.int (nI p)] [] (sp_by (d := d - 1) hS cl) dX6_part1_5 ml_X6_292 im_X6_byteAt (hS.1.s 0 (by decide)) (hS.1.n 0 (by decide)) rfl rfl (dl1 (d := d) (by omega)) rfl rfl (Nat.le_of_ble_eq_true rfl) rfl rfl (Nat.zero_le _) (Nat.zero_le _) ?_
      refine aw_istore_n [(3, .int (nI (B p))), (0, .ref 0), (1, .int (nI lo)), (2, .int (nI hi))] dX6_part1_8 (Nat.le_of_ble_eq_true rfl) rfl ?_
      refine aw_iload_n dX6_part1_9 0 rfl ?_
      refine aw_iload_n dX6_part1_10 2 rfl ?_
      refine aw_icmp_ltN (B p) lo 19 dX6_part1_11 (by decide) rfl rfl (by omega) (by omega) (fun c1 => absurd c1 (by omega)) (fun c1 => ?_)
      refine aw_iload_n dX6_part1_14 0 rfl ?_
      refine aw_iload_n dX6_part1_15 3 rfl ?_
      refine aw_icmp_leN (B p) hi 29 dX6_part1_16 (by decide) rfl rfl (by omega) (by omega) (fun c2 => absurd c2 (by omega)) (fun c2 => ?_)
      refine aw_aload_n dX6_part1_19 1 rfl ?_
      refine aw_aload_n dX6_part1_20 1 rfl ?_
      refine aw_getI dX6_part1_21 fl_X6_289 (hS.1.s 0 (by decide)) (hS.1.n 0 (by decide)) ?_
      refine aw_topE hp ?_
      refine aw_callVv [.int (nI p)] [] (sp_fa (d := d - 1) (nI p) hS.1 hf0) dX6_part1_24 ml_X6_295 im_X6_faults (hS.1.s 0 (by decide)) (hS.1.n 0 (by decide)) rfl rfl (dl1 (d := d) (by omega)) rfl rfl (Nat.le_of_ble_eq_true rfl) rfl rfl (Nat.zero_le _) (Nat.zero_le _) ?_
      refine aw_iconst (v := -1) dX6_part1_27 (by decide) ?_
      refine aw_iret dX6_part1_28 rfl (Nat.zero_le _) (Nat.zero_le _) ?_
      exact ⟨rfl, rfl⟩
    · skip
      refine aw_aload_n dX6_part1_0 0 rfl ?_
      refine aw_aload_n dX6_part1_1 0 rfl ?_
      refine aw_getI dX6_part1_2 fl_X6_289 (hS.1.s 0 (by decide)) (hS.1.n 0 (by decide)) ?_
      refine aw_topE hp ?_
      refine aw_callVi [.int (nI p)] [] (sp_by (d := d - 1) hS cl) dX6_part1_5 ml_X6_292 im_X6_byteAt (hS.1.s 0 (by decide)) (hS.1.n 0 (by decide)) rfl rfl (dl1 (d := d) (by omega)) rfl rfl (Nat.le_of_ble_eq_true rfl) rfl rfl (Nat.zero_le _) (Nat.zero_le _) ?_
      refine aw_istore_n [(3, .int (nI (B p))), (0, .ref 0), (1, .int (nI lo)), (2, .int (nI hi))] dX6_part1_8 (Nat.le_of_ble_eq_true rfl) rfl ?_
      refine aw_iload_n dX6_part1_9 0 rfl ?_
      refine aw_iload_n dX6_part1_10 2 rfl ?_
      refine aw_icmp_ltN (B p) lo 19 dX6_part1_11 (by decide) rfl rfl (by omega) (by omega) (fun c1 => ?_) (fun c1 => absurd (by omega) c1)
      refine aw_aload_n dX6_part1_19 1 rfl ?_
      refine aw_aload_n dX6_part1_20 1 rfl ?_
      refine aw_getI dX6_part1_21 fl_X6_289 (hS.1.s 0 (by decide)) (hS.1.n 0 (by decide)) ?_
      refine aw_topE hp ?_
      refine aw_callVv [.int (nI p)] [] (sp_fa (d := d - 1) (nI p) hS.1 hf0) dX6_part1_24 ml_X6_295 im_X6_faults (hS.1.s 0 (by decide)) (hS.1.n 0 (by decide)) rfl rfl (dl1 (d := d) (by omega)) rfl rfl (Nat.le_of_ble_eq_true rfl) rfl rfl (Nat.zero_le _) (Nat.zero_le _) ?_
      refine aw_iconst (v := -1) dX6_part1_27 (by decide) ?_
      refine aw_iret dX6_part1_28 rfl (Nat.zero_le _) (Nat.zero_le _) ?_
      exact ⟨rfl, rfl⟩
  · have hm : (-1 : Int32) < nI lo := Int32.lt_iff_toInt_lt.mpr (by rw [nI_toInt (by omega)]; show (-1 : Int) < _; omega)
    refine aw_aload_n dX6_part1_0 0 rfl ?_
    refine aw_aload_n dX6_part1_1 0 rfl ?_
    refine aw_getI dX6_part1_2 fl_X6_289 (hS.1.s 0 (by decide)) (hS.1.n 0 (by decide)) ?_
    refine aw_topE hp ?_
    refine aw_callVi [.int (nI p)] [] (sp_byn (d := d - 1) hS cl (by omega)) dX6_part1_5 ml_X6_292 im_X6_byteAt (hS.1.s 0 (by decide)) (hS.1.n 0 (by decide)) rfl rfl (dl1 (d := d) (by omega)) rfl rfl (Nat.le_of_ble_eq_true rfl) rfl rfl (Nat.zero_le _) (Nat.zero_le _) ?_
    refine aw_istore_n [(3, .int (-1)), (0, .ref 0), (1, .int (nI lo)), (2, .int (nI hi))] dX6_part1_8 (Nat.le_of_ble_eq_true rfl) rfl ?_
    refine aw_iload_n dX6_part1_9 0 rfl ?_
    refine aw_iload_n dX6_part1_10 2 rfl ?_
    refine aw_icmp_lt 19 dX6_part1_11 (by decide) (fun c1 => ?_) (fun c1 => absurd hm c1)
    refine aw_aload_n dX6_part1_19 1 rfl ?_
    refine aw_aload_n dX6_part1_20 1 rfl ?_
    refine aw_getI dX6_part1_21 fl_X6_289 (hS.1.s 0 (by decide)) (hS.1.n 0 (by decide)) ?_
    refine aw_topE hp ?_
    refine aw_callVv [.int (nI p)] [] (sp_fa (d := d - 1) (nI p) hS.1 hf0) dX6_part1_24 ml_X6_295 im_X6_faults (hS.1.s 0 (by decide)) (hS.1.n 0 (by decide)) rfl rfl (dl1 (d := d) (by omega)) rfl rfl (Nat.le_of_ble_eq_true rfl) rfl rfl (Nat.zero_le _) (Nat.zero_le _) ?_
    refine aw_iconst (v := -1) dX6_part1_27 (by decide) ?_
    refine aw_iret dX6_part1_28 rfl (Nat.zero_le _) (Nat.zero_le _) ?_
    exact ⟨rfl, rfl⟩
theorem lp_rw {d : Nat} {M : xM} {B : Nat → Nat} {L : Nat} {p n : Nat} (s : Int32) (hS : RfS M B L) (hp : mI M 0 24 = nI p) (hl : p + n ≤ L) : ∀ j i v, i + j = n → AW (fX6_readsWhole d) 29 [(5, .int (nI i)), (3, .long v), (0, .ref 0), (1, .int (nI n)), (2, .int s)] [] M 0 0 (dt (some (.long (folB B j (p + i) v))) M) := by
  have hL2 := hS.2.1
  intro j
  induction j with
  | zero =>
    intro i v hi
    refine aw_iload dX6_readsWhole_29 0 rfl ?_
    refine aw_iload_n dX6_readsWhole_31 3 rfl ?_
    refine aw_icmp_geN i n 60 dX6_readsWhole_32 (by decide) rfl rfl (by omega) (by omega) (fun c1 => ?_) (fun c1 => absurd (by omega) c1)
    refine aw_lload_n dX6_readsWhole_60 1 rfl ?_
    refine aw_lret dX6_readsWhole_61 rfl (Nat.zero_le _) (Nat.zero_le _) ?_
    exact ⟨rfl, rfl⟩
  | succ j ih =>
    intro i v hi
    have hb := (hS.2.2.2 (p + i) (by omega)).2
    have g := ih (i + 1) ((v <<< ((Int32.toInt64 8) &&& 63)) ||| lN (B (p + i))) (by omega)
    refine aw_iload dX6_readsWhole_29 0 rfl ?_
    refine aw_iload_n dX6_readsWhole_31 3 rfl ?_
    refine aw_icmp_geN i n 60 dX6_readsWhole_32 (by decide) rfl rfl (by omega) (by omega) (fun c1 => absurd c1 (by omega)) (fun c1 => ?_)
    refine aw_lload_n dX6_readsWhole_35 1 rfl ?_
    refine aw_bipush (v := 8) dX6_readsWhole_36 (by decide) ?_
    refine aw_lshl dX6_readsWhole_38 ?_
    refine aw_aload_n dX6_readsWhole_39 2 rfl ?_
    refine aw_getR (b := 14) dX6_readsWhole_40 fl_X6_54 rfl (hS.1.s 0 (by decide)) (hS.1.n 0 (by decide)) (hS.1.r 22) ?_
    refine aw_aload_n dX6_readsWhole_43 2 rfl ?_
    refine aw_getI dX6_readsWhole_44 fl_X6_289 (hS.1.s 0 (by decide)) (hS.1.n 0 (by decide)) ?_
    refine aw_topE hp ?_
    refine aw_iload dX6_readsWhole_47 0 rfl ?_
    refine aw_iaddN p i dX6_readsWhole_49 rfl rfl ?_
    refine aw_ialdN (p + i) dX6_readsWhole_50 (hS.1.s 14 (by decide)) (hS.1.n 14 (by decide)) rfl (by omega) (by first | decide | omega) ?_
    refine aw_topE (hS.2.2.2 (p + i) (by omega)).1 ?_
    refine aw_i2lN (B (p + i)) dX6_readsWhole_51 rfl (by omega) ?_
    refine aw_lor dX6_readsWhole_52 ?_
    refine aw_lstore_n [(3, .long ((v <<< ((Int32.toInt64 8) &&& 63)) ||| (lN (B (p + i))))), (5, .int (nI i)), (0, .ref 0), (1, .int (nI n)), (2, .int s)] dX6_readsWhole_53 (Nat.le_of_ble_eq_true rfl) rfl ?_
    refine aw_iincN i 1 [(5, .int (nI (i + 1))), (3, .long ((v <<< ((Int32.toInt64 8) &&& 63)) ||| (lN (B (p + i))))), (0, .ref 0), (1, .int (nI n)), (2, .int s)] dX6_readsWhole_54 1 rfl rfl rfl (Nat.le_of_ble_eq_true rfl) rfl ?_
    refine aw_goto 29 dX6_readsWhole_57 (by decide) ?_
    exact g
theorem sp_rw {d : Nat} {M : xM} {B : Nat → Nat} {L : Nat} {p n : Nat} (s : Bool) (hS : RfS M B L) (hp : mI M 0 24 = nI p) (hn : 0 < n) (hl : p + n ≤ L) : Sp (fX6_readsWhole d) [.ref 0, .int (nI n), .int (bz s)] M (dt (some (.long (folB B n p (if s = true ∧ 127 < B p then -1 else 0)))) M) := by
  refine Sp.of pn_X6 (Nat.le_of_ble_eq_true rfl) (fun h => Bool.noConfusion h) ?_
  have hL2 := hS.2.1
  have hb := (hS.2.2.2 p (by omega)).2
  cases s with
  | false =>
    rw [if_neg (fun z => by cases z.1)]
    show AW _ 0 [(0, .ref 0), (1, .int (nI n)), (2, .int 0)] [] M 0 0 _
    refine aw_iload_n dX6_readsWhole_0 2 rfl ?_
    refine aw_if_eq 24 dX6_readsWhole_1 (by decide) (fun c1 => ?_) (fun c1 => absurd rfl c1)
    refine aw_lconst (v := 0) dX6_readsWhole_24 (by decide) ?_
    refine aw_lstore_n [(3, .long 0), (0, .ref 0), (1, .int (nI n)), (2, .int 0)] dX6_readsWhole_25 (Nat.le_of_ble_eq_true rfl) rfl ?_
    refine aw_iconst (v := 0) dX6_readsWhole_26 (by decide) ?_
    refine aw_istore [(5, .int 0), (3, .long 0), (0, .ref 0), (1, .int (nI n)), (2, .int 0)] dX6_readsWhole_27 (Nat.le_of_ble_eq_true rfl) rfl ?_
    exact lp_rw 0 hS hp hl n 0 _ (by omega)
  | true =>
    show AW _ 0 [(0, .ref 0), (1, .int (nI n)), (2, .int 1)] [] M 0 0 _
    by_cases c : 127 < B p
    · rw [if_pos ⟨rfl, c⟩]
      refine aw_iload_n dX6_readsWhole_0 2 rfl ?_
      refine aw_if_eq 24 dX6_readsWhole_1 (by decide) (fun c1 => absurd c1 (by decide)) (fun c1 => ?_)
      refine aw_aload_n dX6_readsWhole_4 0 rfl ?_
      refine aw_getR (b := 14) dX6_readsWhole_5 fl_X6_54 rfl (hS.1.s 0 (by decide)) (hS.1.n 0 (by decide)) (hS.1.r 22) ?_
      refine aw_aload_n dX6_readsWhole_8 0 rfl ?_
      refine aw_getI dX6_readsWhole_9 fl_X6_289 (hS.1.s 0 (by decide)) (hS.1.n 0 (by decide)) ?_
      refine aw_topE hp ?_
      refine aw_ialdN p dX6_readsWhole_12 (hS.1.s 14 (by decide)) (hS.1.n 14 (by decide)) rfl (by omega) (by first | decide | omega) ?_
      refine aw_topE (hS.2.2.2 p (by omega)).1 ?_
      refine aw_bipush (v := 127) dX6_readsWhole_13 (by decide) ?_
      refine aw_icmp_leN (B p) 127 24 dX6_readsWhole_15 (by decide) rfl rfl (by omega) (by omega) (fun c2 => absurd c2 (by omega)) (fun c2 => ?_)
      refine aw_ldc2 dX6_readsWhole_18 kc_X6_298 ?_
      refine aw_goto 25 dX6_readsWhole_21 (by decide) ?_
      refine aw_lstore_n [(3, .long (-1)), (0, .ref 0), (1, .int (nI n)), (2, .int 1)] dX6_readsWhole_25 (Nat.le_of_ble_eq_true rfl) rfl ?_
      refine aw_iconst (v := 0) dX6_readsWhole_26 (by decide) ?_
      refine aw_istore [(5, .int 0), (3, .long (-1)), (0, .ref 0), (1, .int (nI n)), (2, .int 1)] dX6_readsWhole_27 (Nat.le_of_ble_eq_true rfl) rfl ?_
      exact lp_rw 1 hS hp hl n 0 _ (by omega)
    · rw [if_neg (fun z => c z.2)]
      refine aw_iload_n dX6_readsWhole_0 2 rfl ?_
      refine aw_if_eq 24 dX6_readsWhole_1 (by decide) (fun c1 => absurd c1 (by decide)) (fun c1 => ?_)
      refine aw_aload_n dX6_readsWhole_4 0 rfl ?_
      refine aw_getR (b := 14) dX6_readsWhole_5 fl_X6_54 rfl (hS.1.s 0 (by decide)) (hS.1.n 0 (by decide)) (hS.1.r 22) ?_
      refine aw_aload_n dX6_readsWhole_8 0 rfl ?_
      refine aw_getI dX6_readsWhole_9 fl_X6_289 (hS.1.s 0 (by decide)) (hS.1.n 0 (by decide)) ?_
      refine aw_topE hp ?_
      refine aw_ialdN p dX6_readsWhole_12 (hS.1.s 14 (by decide)) (hS.1.n 14 (by decide)) rfl (by omega) (by first | decide | omega) ?_
      refine aw_topE (hS.2.2.2 p (by omega)).1 ?_
      refine aw_bipush (v := 127) dX6_readsWhole_13 (by decide) ?_
      refine aw_icmp_leN (B p) 127 24 dX6_readsWhole_15 (by decide) rfl rfl (by omega) (by omega) (fun c2 => ?_) (fun c2 => absurd (by omega) c2)
      refine aw_lconst (v := 0) dX6_readsWhole_24 (by decide) ?_
      refine aw_lstore_n [(3, .long 0), (0, .ref 0), (1, .int (nI n)), (2, .int 1)] dX6_readsWhole_25 (Nat.le_of_ble_eq_true rfl) rfl ?_
      refine aw_iconst (v := 0) dX6_readsWhole_26 (by decide) ?_
      refine aw_istore [(5, .int 0), (3, .long 0), (0, .ref 0), (1, .int (nI n)), (2, .int 1)] dX6_readsWhole_27 (Nat.le_of_ble_eq_true rfl) rfl ?_
      exact lp_rw 1 hS hp hl n 0 _ (by omega)
