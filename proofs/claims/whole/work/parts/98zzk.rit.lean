-- THE REFERENCE READS ITEMS: contract
theorem pFlat_e {B : Nat → Nat} {L k t : Nat} : ∀ {n j p : Nat} {R : pR} {f : Nat}, pFlat B L k t n j p R = .error f → p ≤ L → f ≤ L
  | 0, _, _, _, _, h, _ => by cases h
  | n + 1, j, p, R, f, h, hp => by
    unfold pFlat at h
    split at h
    · rename_i e; injection h with h; subst h; rw [pNum_e e]; exact hp
    · rename_i e; exact pFlat_e h (pNum_le e)
theorem pRuns_e {B : Nat → Nat} {L k t : Nat} : ∀ {n j r : Nat} {v : Int64} {p : Nat} {R : pR} {f : Nat}, pRuns B L k t n j r v p R = .error f → p ≤ L → f ≤ L
  | 0, _, _, _, _, _, _, h, _ => by unfold pRuns at h; cases h
  | n + 1, j, 0, v, p, R, f, h, hp => by
    unfold pRuns at h
    split at h
    · split at h
      · rename_i e; injection h with h; subst h; rw [pNum_e e]; omega
      · rename_i e; exact pRuns_e h (pNum_le e)
    · injection h with h; omega
  | n + 1, j, r + 1, v, p, R, f, h, hp => by
    unfold pRuns at h
    exact pRuns_e h hp
theorem pSteps_e {B : Nat → Nat} {L k t : Nat} : ∀ {n j : Nat} {a : Int64} {p : Nat} {R : pR} {f : Nat}, pSteps B L k t n j a p R = .error f → p ≤ L → f ≤ L
  | 0, _, _, _, _, _, h, _ => by cases h
  | n + 1, j, a, p, R, f, h, hp => by
    unfold pSteps at h
    split at h
    · rename_i e; injection h with h; subst h; rw [pStep_e e]; exact hp
    · rename_i e
      split at h
      · exact pSteps_e h (pStep_le e)
      · injection h with h; omega
theorem pLet_e {B : Nat → Nat} {L : Nat} : ∀ {n c p : Nat} {f : Nat}, pLet B L n c p = .error f → p ≤ L → f ≤ L
  | 0, _, _, _, h, _ => by cases h
  | n + 1, c, p, f, h, hp => by
    unfold pLet at h
    split at h
    · exact pLet_e h (by omega)
    · injection h with h; omega
theorem pWord_e {B : Nat → Nat} {L p f : Nat} (h : pWord B L p = .error f) (hp : p ≤ L) : f ≤ L := by
  unfold pWord at h
  split at h
  · exact pLet_e h (by omega)
  · injection h with h; omega
theorem pWord_le {B : Nat → Nat} {L p : Nat} {vp : Int64 × Nat} (h : pWord B L p = .ok vp) : vp.2 ≤ L := by
  unfold pWord at h
  split at h
  · exact pLet_le h (by omega)
  · cases h
theorem pElem_e {B : Nat → Nat} {L : Nat} {R : pR} {k b p f : Nat} (h : pElem B L R k b p = .error f) (hp : p ≤ L) : f ≤ L := by
  unfold pElem at h
  split at h
  · exact pWord_e h hp
  · split at h
    · generalize (if k = 11 then 3 else 0) = a at h
      unfold pBead at h
      split at h
      · cases h
      · injection h with h; omega
    · split at h
      · unfold pLink at h
        split at h
        · cases h
        · injection h with h; omega
      · split at h
        · cases h
        · rw [pNum_e h]; exact hp
theorem pObj_e {B : Nat → Nat} {L : Nat} {F : Nat → Nat → pR → pP} {k t : Nat} (hI : ∀ b p R pr, F b p R = .ok pr → p < L → rIn R pr.2 ∧ pr.1 ≤ L) (hF : ∀ b p R f, F b p R = .error f → p < L → f ≤ L) : ∀ {n j p : Nat} {R : pR} {f : Nat}, pObj B L F k t n j p R = .error f → p ≤ L → f ≤ L
  | 0, _, _, _, _, h, _ => by cases h
  | n + 1, j, p, R, f, h, hp => by
    unfold pObj at h
    split at h
    · rename_i c
      split at h
      · split at h
        · rename_i e; injection h with h; subst h; exact hF _ _ _ _ e c.1
        · rename_i e; exact pObj_e hI hF h (hI _ _ _ _ e c.1).2
      · split at h
        · rename_i e; injection h with h; subst h; exact pElem_e e (by omega)
        · rename_i e; exact pObj_e hI hF h (pElem_le e (by omega))
    · injection h with h; omega
theorem pArr_e {B : Nat → Nat} {L : Nat} : ∀ (g b p : Nat) (R : pR) (f : Nat), pArr B L g b p R = .error f → p < L → f ≤ L
  | 0, _, _, _, _, h, hp => by injection h with h; omega
  | g + 1, b, p, R, f, h, hp => by
    unfold pArr at h
    split at h
    · split at h
      · rename_i c
        split at h
        · exact pRuns_e h (by omega)
        · split at h
          · exact pSteps_e h (by omega)
          · split at h
            · exact pFlat_e h (by omega)
            · exact pObj_e (pArr_in g) (pArr_e g) h (by omega)
      · injection h with h; omega
    · injection h with h; omega
def QI (M : xM) (q : pP) : Option Value → xM → Prop := fun r C => match q with
  | .ok pr => r = some (.int (nI pr.1)) ∧ RFm M C ∧ mI C 0 25 = -1 ∧ RSr pr.2 C ∧ (rK pr.2 0 < 14 → mI C 0 26 = nI pr.2.1)
  | .error f => (∃ y, r = some (.int y)) ∧ RFm M C ∧ mI C 0 25 = nI f
def riM (M : xM) (p : Nat) : xM := stI (stI (stI (stI M 0 24 (nI p)) 0 25 (-1)) 0 26 0) 0 19 0
theorem riM_C {M : xM} (h : LenR M) (p : Nat) : RS M p rZero (riM M p) := by
  refine ⟨((((RFm.rf h).i 24 _ (by decide)).i 25 _ (by decide)).i 26 _ (by decide)).i 19 _ (by decide), ?_, ?_, ?_, Nat.zero_le _, fun n hn => absurd hn (Nat.not_lt_zero _)⟩
  · unfold riM
    rw [mI_stI_o _ _ _ _ (by decide), mI_stI_o _ _ _ _ (by decide), mI_stI_o _ _ _ _ (by decide), mI_stI_v]
  · unfold riM
    rw [mI_stI_o _ _ _ _ (by decide), mI_stI_o _ _ _ _ (by decide), mI_stI_v]
  · unfold riM
    rw [mI_stI_o _ _ _ _ (by decide), mI_stI_v]
    rfl
theorem riM_S (M : xM) (p : Nat) : StK [] (riM M p) := ⟨mI_stI_v _ _ _ _, fun i hi => absurd hi (Nat.not_lt_zero _)⟩
theorem RFm.t {M0 A : xM} (h : RFm M0 A) {c : Nat} (hc : 12 ≤ c) (v : Int64) : RFm M0 (stL A 3 c v) := by
  obtain ⟨h1, h2, h3, h4, h5, h6, h7⟩ := h
  refine ⟨h1.tr ⟨rfl, rfl, rfl⟩, h2, fun y a b => (mL_stL_c _ _ _ a).trans (h3 y a b), fun i hi => ⟨(h4 i hi).1, (h4 i hi).2.1, ?_⟩, fun i hi => ⟨(h5 i hi).1, (congrFun (mL_stL_c _ _ _ (by decide)) i).trans (h5 i hi).2⟩, h6, h7⟩
  exact (xup_k A.2.1 3 v (by omega) 3).trans (h4 i hi).2.2
theorem sp_ri {d : Nat} (hd : 8 ≤ d) {M : xM} {B : Nat → Nat} {L p : Nat} (hS : RfS M B L) (hLn : LenR M) (hpl : p ≤ L) : Sp (fX6_readsItem d) [.ref 0, .int (nI p)] M (QI M (pItem B L p)) := by
  refine Sp.of pn_X6 (Nat.le_of_ble_eq_true rfl) (fun h => Bool.noConfusion h) ?_
  have hL2 := hS.2.1
  have hC0 := riM_C hLn p
  have hs0 := riM_S M p
  have hD0 := hC0.1.D hS
  by_cases cl : p < L
  · have hb := (hS.2.2.2 p cl).2
    by_cases htag : sX1_isArrayTag (nI (B p)) = true
    · have ei : pItem B L p = pArr B L 12 (B p) p rZero := by unfold pItem; rw [if_pos cl, if_pos htag]
      rw [ei]
      have htg : sX6_isRowTag (nI (B p)) = true := by rw [tg_eq (B p) hb]; exact htag
      obtain ⟨tg1, -⟩ := tg_ok (B p) hb htag
      obtain ⟨Q, q1, q2⟩ := ri_rows (d := d) (x1 := nI p) (x2 := nI (B p)) (post := QI M (pArr B L 12 (B p) p rZero)) hd hS 12 p rZero (riM M p) [] hC0 hs0 cl (by decide) (Nat.zero_le _) htag
        (fun p' R' A' e hR hst => ri_end (hR.1.D hS).1 hR.2.2.1 hst hR.2.1 (by rw [e]; exact ⟨rfl, hR.1, hR.2.2.1, hR.2.2.2.2, fun _ => hR.2.2.2.1⟩))
        (fun f A' e hR hf => ri_err (hR.D hS).1 hf (by have := pArr_e _ _ _ _ _ e cl; omega) (by rw [e]; exact ⟨⟨_, rfl⟩, hR, hf⟩))
      refine aw_aload_n dX6_readsItem_0 0 rfl ?_
      refine aw_iload_n dX6_readsItem_1 1 rfl ?_
      refine aw_putI dX6_readsItem_2 fl_X6_289 (Or.inl rfl) (hS.1.s 0 (by decide)) (hS.1.n 0 (by decide)) ?_
      refine aw_aload_n dX6_readsItem_5 0 rfl ?_
      refine aw_iconst (v := -1) dX6_readsItem_6 (by decide) ?_
      refine aw_putI dX6_readsItem_7 fl_X6_283 (Or.inl rfl) (((sT.I M 0 24 (nI p)).TR hS.1).s 0 (by decide)) (((sT.I M 0 24 (nI p)).TR hS.1).n 0 (by decide)) ?_
      refine aw_aload_n dX6_readsItem_10 0 rfl ?_
      refine aw_iconst (v := 0) dX6_readsItem_11 (by decide) ?_
      refine aw_putI dX6_readsItem_12 fl_X6_327 (Or.inl rfl) (((sT.I (stI M 0 24 (nI p)) 0 25 (-1)).TR ((sT.I M 0 24 (nI p)).TR hS.1)).s 0 (by decide)) (((sT.I (stI M 0 24 (nI p)) 0 25 (-1)).TR ((sT.I M 0 24 (nI p)).TR hS.1)).n 0 (by decide)) ?_
      refine aw_aload_n dX6_readsItem_15 0 rfl ?_
      refine aw_iconst (v := 0) dX6_readsItem_16 (by decide) ?_
      refine aw_putI dX6_readsItem_17 fl_X6_267 (Or.inl rfl) (((sT.I (stI (stI M 0 24 (nI p)) 0 25 (-1)) 0 26 0).TR ((sT.I (stI M 0 24 (nI p)) 0 25 (-1)).TR ((sT.I M 0 24 (nI p)).TR hS.1))).s 0 (by decide)) (((sT.I (stI (stI M 0 24 (nI p)) 0 25 (-1)) 0 26 0).TR ((sT.I (stI M 0 24 (nI p)) 0 25 (-1)).TR ((sT.I M 0 24 (nI p)).TR hS.1))).n 0 (by decide)) ?_
      refine aw_aload_n dX6_readsItem_20 0 rfl ?_
      refine aw_aload_n dX6_readsItem_21 0 rfl ?_
      refine aw_getI dX6_readsItem_22 fl_X6_289 (hD0.1.s 0 (by decide)) (hD0.1.n 0 (by decide)) ?_
      refine aw_topE hC0.2.1 ?_
      refine aw_callVi [.int (nI p)] [] (sp_by (d := d - 1) hD0 cl) dX6_readsItem_25 ml_X6_292 im_X6_byteAt (hD0.1.s 0 (by decide)) (hD0.1.n 0 (by decide)) rfl rfl (dl1 (d := d) (by omega)) rfl rfl (Nat.le_of_ble_eq_true rfl) rfl rfl (Nat.zero_le _) (Nat.zero_le _) ?_
      refine aw_istore_n [(2, .int (nI (B p))), (0, .ref 0), (1, .int (nI p))] dX6_readsItem_28 (Nat.le_of_ble_eq_true rfl) rfl ?_
      refine aw_iload_n dX6_readsItem_29 0 rfl ?_
      refine aw_bipush (v := 8) dX6_readsItem_30 (by decide) ?_
      refine aw_icmp_eqN (B p) 8 41 dX6_readsItem_32 (by decide) rfl rfl (by omega) (by omega) (fun c1 => absurd c1 (by omega)) (fun c1 => ?_)
      refine aw_iload_n dX6_readsItem_35 0 rfl ?_
      refine aw_bipush (v := 9) dX6_readsItem_36 (by decide) ?_
      refine aw_icmp_neN (B p) 9 101 dX6_readsItem_38 (by decide) rfl rfl (by omega) (by omega) (fun c2 => ?_) (fun c2 => absurd c2 (by omega))
      refine aw_iload_n dX6_readsItem_101 0 rfl ?_
      refine aw_callSi [.int (nI (B p))] [] (sp_X6_isRowTag (d := d - 1) (by omega) (nI (B p))) dX6_readsItem_102 ml_X6_339 sm_X6_isRowTag rfl (dl1 (d := d) (by omega)) rfl rfl (Nat.le_of_ble_eq_true rfl) rfl rfl (Nat.zero_le _) (Nat.zero_le _) ?_
      refine aw_if_eq 115 dX6_readsItem_105 (by decide) (fun c3 => absurd c3 (bz_n0.mpr htg)) (fun c3 => ?_)
      refine aw_aload_n dX6_readsItem_108 1 rfl ?_
      refine aw_callVx [] [] (q1 _ (by omega)) dX6_readsItem_109 ml_X6_345 im_X6_readsRow (hD0.1.s 0 (by decide)) (hD0.1.n 0 (by decide)) rfl rfl (dl1 (d := d) (by omega)) rfl rfl (Nat.le_of_ble_eq_true rfl) rfl rfl (Nat.zero_le _) (Nat.zero_le _) (fun r C hC => ?_)
      obtain ⟨rfl, hC⟩ := hC
      refine aw_nil ?_
      refine aw_goto 123 dX6_readsItem_112 (by decide) ?_
      refine aw_sub [1, 2, 0] rfl ?_
      exact q2 C hC
    · have htf : sX1_isArrayTag (nI (B p)) = false := by
        cases e : sX1_isArrayTag (nI (B p)) with
        | false => rfl
        | true => exact absurd e htag
      have htg : sX6_isRowTag (nI (B p)) = false := by rw [tg_eq (B p) hb]; exact htf
      by_cases c8 : B p = 8
      · have hcs := c8
        have hFX : RFm M (begM (stI (riM M p) 0 24 (nI (p + 1))) 12 15 0) := (hC0.1.i 24 _ (by decide)).b (u := 0) (by decide) 15 (Nat.zero_le _)
        have hDX := hFX.D hS
        have hpX : mI (begM (stI (riM M p) 0 24 (nI (p + 1))) 12 15 0) 0 24 = nI (p + 1) := by rw [begM_oI _ _ _ _ (Or.inl rfl), mI_stI_v]
        have hfX : mI (begM (stI (riM M p) 0 24 (nI (p + 1))) 12 15 0) 0 25 = -1 := by rw [begM_oI _ _ _ _ (Or.inl rfl), mI_stI_o _ _ _ _ (by decide)]; exact hC0.2.2.1
        have hdX : mI (begM (stI (riM M p) 0 24 (nI (p + 1))) 12 15 0) 0 19 = 0 := by rw [begM_oI _ _ _ _ (Or.inl rfl), mI_stI_o _ _ _ _ (by decide)]; exact hs0.1
        have fin : ∀ (v : Int64) (q : Nat), QI M (.ok (q, rThg 15 v)) (some (.int (nI q))) (stL (stI (begM (stI (riM M p) 0 24 (nI (p + 1))) 12 15 0) 0 24 (nI q)) 3 12 v) := fun v q => by
          refine ⟨rfl, (hFX.i 24 _ (by decide)).t (by decide) v, ?_, ⟨by show 1 ≤ 12; omega, fun n hn => ?_⟩, fun z => absurd (show 15 < 14 from z) (by decide)⟩
          · rw [mI_stL_c, mI_stI_o _ _ _ _ (by decide)]; exact hfX
          · obtain rfl : n = 0 := by have : n < 1 := hn; omega
            refine ⟨(by decide : 15 < 16), Nat.zero_le _, ?_, ?_, fun _ => xup_s (stI (begM (stI (riM M p) 0 24 (nI (p + 1))) 12 15 0) 0 24 (nI q)).2.1 3 12 v, fun j hj => absurd hj (Nat.not_lt_zero _)⟩
            · rw [mI_stL_c, mI_stI_c _ _ _ (by decide), begM_1]; rfl
            · rw [mI_stL_c, mI_stI_c _ _ _ (by decide), begM_2]; rfl
        have hq := sp_rwd (d := d - 1) (by omega) hDX hpX (by omega) hfX
        have ei : pItem B L p = (match pWord B L (p + 1) with
            | .error f => .error f
            | .ok vp => .ok (vp.2, rThg 15 vp.1)) := by unfold pItem; rw [if_pos cl, if_neg htag, if_pos c8]; cases pWord B L (p + 1) <;> rfl
        rw [ei]
        cases e : pWord B L (p + 1) with
        | error f =>
          rw [e] at hq
          refine aw_aload_n dX6_readsItem_0 0 rfl ?_
          refine aw_iload_n dX6_readsItem_1 1 rfl ?_
          refine aw_putI dX6_readsItem_2 fl_X6_289 (Or.inl rfl) (hS.1.s 0 (by decide)) (hS.1.n 0 (by decide)) ?_
          refine aw_aload_n dX6_readsItem_5 0 rfl ?_
          refine aw_iconst (v := -1) dX6_readsItem_6 (by decide) ?_
          refine aw_putI dX6_readsItem_7 fl_X6_283 (Or.inl rfl) (((sT.I M 0 24 (nI p)).TR hS.1).s 0 (by decide)) (((sT.I M 0 24 (nI p)).TR hS.1).n 0 (by decide)) ?_
          refine aw_aload_n dX6_readsItem_10 0 rfl ?_
          refine aw_iconst (v := 0) dX6_readsItem_11 (by decide) ?_
          refine aw_putI dX6_readsItem_12 fl_X6_327 (Or.inl rfl) (((sT.I (stI M 0 24 (nI p)) 0 25 (-1)).TR ((sT.I M 0 24 (nI p)).TR hS.1)).s 0 (by decide)) (((sT.I (stI M 0 24 (nI p)) 0 25 (-1)).TR ((sT.I M 0 24 (nI p)).TR hS.1)).n 0 (by decide)) ?_
          refine aw_aload_n dX6_readsItem_15 0 rfl ?_
          refine aw_iconst (v := 0) dX6_readsItem_16 (by decide) ?_
          refine aw_putI dX6_readsItem_17 fl_X6_267 (Or.inl rfl) (((sT.I (stI (stI M 0 24 (nI p)) 0 25 (-1)) 0 26 0).TR ((sT.I (stI M 0 24 (nI p)) 0 25 (-1)).TR ((sT.I M 0 24 (nI p)).TR hS.1))).s 0 (by decide)) (((sT.I (stI (stI M 0 24 (nI p)) 0 25 (-1)) 0 26 0).TR ((sT.I (stI M 0 24 (nI p)) 0 25 (-1)).TR ((sT.I M 0 24 (nI p)).TR hS.1))).n 0 (by decide)) ?_
          refine aw_aload_n dX6_readsItem_20 0 rfl ?_
          refine aw_aload_n dX6_readsItem_21 0 rfl ?_
          refine aw_getI dX6_readsItem_22 fl_X6_289 (hD0.1.s 0 (by decide)) (hD0.1.n 0 (by decide)) ?_
          refine aw_topE hC0.2.1 ?_
          refine aw_callVi [.int (nI p)] [] (sp_by (d := d - 1) hD0 cl) dX6_readsItem_25 ml_X6_292 im_X6_byteAt (hD0.1.s 0 (by decide)) (hD0.1.n 0 (by decide)) rfl rfl (dl1 (d := d) (by omega)) rfl rfl (Nat.le_of_ble_eq_true rfl) rfl rfl (Nat.zero_le _) (Nat.zero_le _) ?_
          refine aw_istore_n [(2, .int (nI (B p))), (0, .ref 0), (1, .int (nI p))] dX6_readsItem_28 (Nat.le_of_ble_eq_true rfl) rfl ?_
          refine aw_iload_n dX6_readsItem_29 0 rfl ?_
          refine aw_bipush (v := 8) dX6_readsItem_30 (by decide) ?_
          refine aw_icmp_eqN (B p) 8 41 dX6_readsItem_32 (by decide) rfl rfl (by omega) (by omega) (fun c1 => ?_) (fun c1 => absurd (by omega) c1)
          refine aw_aload_n dX6_readsItem_41 1 rfl ?_
          refine aw_dup dX6_readsItem_42 rfl ?_
          refine aw_getI dX6_readsItem_43 fl_X6_289 (hD0.1.s 0 (by decide)) (hD0.1.n 0 (by decide)) ?_
          refine aw_topE hC0.2.1 ?_
          refine aw_iconst (v := 1) dX6_readsItem_46 (by decide) ?_
          refine aw_iaddN p 1 dX6_readsItem_47 rfl rfl ?_
          refine aw_putI dX6_readsItem_48 fl_X6_289 (Or.inl rfl) (hD0.1.s 0 (by decide)) (hD0.1.n 0 (by decide)) ?_
          refine aw_aload_n dX6_readsItem_51 1 rfl ?_
          refine aw_bipush (v := 12) dX6_readsItem_52 (by decide) ?_
          refine aw_iload_n dX6_readsItem_54 0 rfl ?_
          refine aw_bipush (v := 8) dX6_readsItem_55 (by decide) ?_
          refine aw_icmp_neN (B p) 8 65 dX6_readsItem_57 (by decide) rfl rfl (by omega) (by omega) (fun c2 => absurd (by omega) c2) (fun c2 => ?_)
          refine aw_bipush (v := 15) dX6_readsItem_60 (by decide) ?_
          refine aw_goto 67 dX6_readsItem_62 (by decide) ?_
          refine aw_iconst (v := 0) dX6_readsItem_67 (by decide) ?_
          refine aw_callVv [.int 12, .int 15, .int 0] [] (sp_X6_begins (d := d - 1) (by omega) 12 15 0 ((sT.I (riM M p) 0 24 (nI (p + 1))).TR hD0.1) (by decide)) dX6_readsItem_68 ml_X6_155 im_X6_begins (((sT.I (riM M p) 0 24 (nI (p + 1))).TR hD0.1).s 0 (by decide)) (((sT.I (riM M p) 0 24 (nI (p + 1))).TR hD0.1).n 0 (by decide)) rfl rfl (dl1 (d := d) (by omega)) rfl rfl (Nat.le_of_ble_eq_true rfl) rfl rfl (Nat.zero_le _) (Nat.zero_le _) ?_
          refine aw_aload_n dX6_readsItem_71 1 rfl ?_
          refine aw_getR (b := 3) dX6_readsItem_72 fl_X6_16 rfl (hDX.1.s 0 (by decide)) (hDX.1.n 0 (by decide)) (hDX.1.r 2) ?_
          refine aw_bipush (v := 12) dX6_readsItem_75 (by decide) ?_
          refine aw_iload_n dX6_readsItem_77 0 rfl ?_
          refine aw_bipush (v := 8) dX6_readsItem_78 (by decide) ?_
          refine aw_icmp_neN (B p) 8 90 dX6_readsItem_80 (by decide) rfl rfl (by omega) (by omega) (fun c3 => absurd (by omega) c3) (fun c3 => ?_)
          refine aw_aload_n dX6_readsItem_83 1 rfl ?_
          refine aw_callVx [] [.int 12, .ref 3] hq dX6_readsItem_84 ml_X6_348 im_X6_readsWord (hDX.1.s 0 (by decide)) (hDX.1.n 0 (by decide)) rfl rfl (dl1 (d := d) (by omega)) rfl rfl (Nat.le_of_ble_eq_true rfl) rfl rfl (Nat.zero_le _) (Nat.zero_le _) (fun r C1 hA1 => ?_)
          obtain ⟨⟨y, rfl⟩, hA1⟩ := hA1
          refine aw_cons ?_
          have hTc := hA1.1.TR hDX.1
          refine aw_goto 97 dX6_readsItem_87 (by decide) ?_
          refine aw_lastN 12 dX6_readsItem_97 (hTc.s 3 (by decide)) (hTc.n 3 (by decide)) rfl (by omega) (by first | decide | omega) ?_
          refine aw_goto 123 dX6_readsItem_98 (by decide) ?_
          refine aw_sub [1, 2, 0] rfl ?_
          exact ri_err ((sT.L C1 3 12 y).TR hTc) (f := f) (by rw [mI_stL_c]; exact hA1.2.2.2.2) (by have := pWord_e e (by omega); omega) ⟨⟨_, rfl⟩, (hFX.e hA1).t (by decide) y, by rw [mI_stL_c]; exact hA1.2.2.2.2⟩
        | ok vp =>
          rw [e] at hq
          refine aw_aload_n dX6_readsItem_0 0 rfl ?_
          refine aw_iload_n dX6_readsItem_1 1 rfl ?_
          refine aw_putI dX6_readsItem_2 fl_X6_289 (Or.inl rfl) (hS.1.s 0 (by decide)) (hS.1.n 0 (by decide)) ?_
          refine aw_aload_n dX6_readsItem_5 0 rfl ?_
          refine aw_iconst (v := -1) dX6_readsItem_6 (by decide) ?_
          refine aw_putI dX6_readsItem_7 fl_X6_283 (Or.inl rfl) (((sT.I M 0 24 (nI p)).TR hS.1).s 0 (by decide)) (((sT.I M 0 24 (nI p)).TR hS.1).n 0 (by decide)) ?_
          refine aw_aload_n dX6_readsItem_10 0 rfl ?_
          refine aw_iconst (v := 0) dX6_readsItem_11 (by decide) ?_
          refine aw_putI dX6_readsItem_12 fl_X6_327 (Or.inl rfl) (((sT.I (stI M 0 24 (nI p)) 0 25 (-1)).TR ((sT.I M 0 24 (nI p)).TR hS.1)).s 0 (by decide)) (((sT.I (stI M 0 24 (nI p)) 0 25 (-1)).TR ((sT.I M 0 24 (nI p)).TR hS.1)).n 0 (by decide)) ?_
          refine aw_aload_n dX6_readsItem_15 0 rfl ?_
          refine aw_iconst (v := 0) dX6_readsItem_16 (by decide) ?_
          refine aw_putI dX6_readsItem_17 fl_X6_267 (Or.inl rfl) (((sT.I (stI (stI M 0 24 (nI p)) 0 25 (-1)) 0 26 0).TR ((sT.I (stI M 0 24 (nI p)) 0 25 (-1)).TR ((sT.I M 0 24 (nI p)).TR hS.1))).s 0 (by decide)) (((sT.I (stI (stI M 0 24 (nI p)) 0 25 (-1)) 0 26 0).TR ((sT.I (stI M 0 24 (nI p)) 0 25 (-1)).TR ((sT.I M 0 24 (nI p)).TR hS.1))).n 0 (by decide)) ?_
          refine aw_aload_n dX6_readsItem_20 0 rfl ?_
          refine aw_aload_n dX6_readsItem_21 0 rfl ?_
          refine aw_getI dX6_readsItem_22 fl_X6_289 (hD0.1.s 0 (by decide)) (hD0.1.n 0 (by decide)) ?_
          refine aw_topE hC0.2.1 ?_
          refine aw_callVi [.int (nI p)] [] (sp_by (d := d - 1) hD0 cl) dX6_readsItem_25 ml_X6_292 im_X6_byteAt (hD0.1.s 0 (by decide)) (hD0.1.n 0 (by decide)) rfl rfl (dl1 (d := d) (by omega)) rfl rfl (Nat.le_of_ble_eq_true rfl) rfl rfl (Nat.zero_le _) (Nat.zero_le _) ?_
          refine aw_istore_n [(2, .int (nI (B p))), (0, .ref 0), (1, .int (nI p))] dX6_readsItem_28 (Nat.le_of_ble_eq_true rfl) rfl ?_
          refine aw_iload_n dX6_readsItem_29 0 rfl ?_
          refine aw_bipush (v := 8) dX6_readsItem_30 (by decide) ?_
          refine aw_icmp_eqN (B p) 8 41 dX6_readsItem_32 (by decide) rfl rfl (by omega) (by omega) (fun c1 => ?_) (fun c1 => absurd (by omega) c1)
          refine aw_aload_n dX6_readsItem_41 1 rfl ?_
          refine aw_dup dX6_readsItem_42 rfl ?_
          refine aw_getI dX6_readsItem_43 fl_X6_289 (hD0.1.s 0 (by decide)) (hD0.1.n 0 (by decide)) ?_
          refine aw_topE hC0.2.1 ?_
          refine aw_iconst (v := 1) dX6_readsItem_46 (by decide) ?_
          refine aw_iaddN p 1 dX6_readsItem_47 rfl rfl ?_
          refine aw_putI dX6_readsItem_48 fl_X6_289 (Or.inl rfl) (hD0.1.s 0 (by decide)) (hD0.1.n 0 (by decide)) ?_
          refine aw_aload_n dX6_readsItem_51 1 rfl ?_
          refine aw_bipush (v := 12) dX6_readsItem_52 (by decide) ?_
          refine aw_iload_n dX6_readsItem_54 0 rfl ?_
          refine aw_bipush (v := 8) dX6_readsItem_55 (by decide) ?_
          refine aw_icmp_neN (B p) 8 65 dX6_readsItem_57 (by decide) rfl rfl (by omega) (by omega) (fun c2 => absurd (by omega) c2) (fun c2 => ?_)
          refine aw_bipush (v := 15) dX6_readsItem_60 (by decide) ?_
          refine aw_goto 67 dX6_readsItem_62 (by decide) ?_
          refine aw_iconst (v := 0) dX6_readsItem_67 (by decide) ?_
          refine aw_callVv [.int 12, .int 15, .int 0] [] (sp_X6_begins (d := d - 1) (by omega) 12 15 0 ((sT.I (riM M p) 0 24 (nI (p + 1))).TR hD0.1) (by decide)) dX6_readsItem_68 ml_X6_155 im_X6_begins (((sT.I (riM M p) 0 24 (nI (p + 1))).TR hD0.1).s 0 (by decide)) (((sT.I (riM M p) 0 24 (nI (p + 1))).TR hD0.1).n 0 (by decide)) rfl rfl (dl1 (d := d) (by omega)) rfl rfl (Nat.le_of_ble_eq_true rfl) rfl rfl (Nat.zero_le _) (Nat.zero_le _) ?_
          refine aw_aload_n dX6_readsItem_71 1 rfl ?_
          refine aw_getR (b := 3) dX6_readsItem_72 fl_X6_16 rfl (hDX.1.s 0 (by decide)) (hDX.1.n 0 (by decide)) (hDX.1.r 2) ?_
          refine aw_bipush (v := 12) dX6_readsItem_75 (by decide) ?_
          refine aw_iload_n dX6_readsItem_77 0 rfl ?_
          refine aw_bipush (v := 8) dX6_readsItem_78 (by decide) ?_
          refine aw_icmp_neN (B p) 8 90 dX6_readsItem_80 (by decide) rfl rfl (by omega) (by omega) (fun c3 => absurd (by omega) c3) (fun c3 => ?_)
          refine aw_aload_n dX6_readsItem_83 1 rfl ?_
          refine aw_callVl [] [.int 12, .ref 3] hq dX6_readsItem_84 ml_X6_348 im_X6_readsWord (hDX.1.s 0 (by decide)) (hDX.1.n 0 (by decide)) rfl rfl (dl1 (d := d) (by omega)) rfl rfl (Nat.le_of_ble_eq_true rfl) rfl rfl (Nat.zero_le _) (Nat.zero_le _) ?_
          refine aw_goto 97 dX6_readsItem_87 (by decide) ?_
          refine aw_lastN 12 dX6_readsItem_97 (((sT.I (begM (stI (riM M p) 0 24 (nI (p + 1))) 12 15 0) 0 24 (nI vp.2)).TR hDX.1).s 3 (by decide)) (((sT.I (begM (stI (riM M p) 0 24 (nI (p + 1))) 12 15 0) 0 24 (nI vp.2)).TR hDX.1).n 3 (by decide)) rfl (by omega) (by first | decide | omega) ?_
          refine aw_goto 123 dX6_readsItem_98 (by decide) ?_
          refine aw_sub [1, 2, 0] rfl ?_
          exact ri_end ((sT.L (stI (begM (stI (riM M p) 0 24 (nI (p + 1))) 12 15 0) 0 24 (nI vp.2)) 3 12 vp.1).TR ((sT.I (begM (stI (riM M p) 0 24 (nI (p + 1))) 12 15 0) 0 24 (nI vp.2)).TR hDX.1)) (by rw [mI_stL_c, mI_stI_o _ _ _ _ (by decide)]; exact hfX) ⟨by rw [mI_stL_c, mI_stI_o _ _ _ _ (by decide)]; exact hdX, fun i hi => absurd hi (Nat.not_lt_zero _)⟩ (by rw [mI_stL_c, mI_stI_v]) (fin vp.1 vp.2)
      · by_cases c9 : B p = 9
        · have ei : pItem B L p = (match pBead B L 0 (p + 1) with
            | .error f => .error f
            | .ok vp => .ok (vp.2, rThg 14 vp.1)) := by unfold pItem; rw [if_pos cl, if_neg htag, if_neg c8, if_pos c9]; cases pBead B L 0 (p + 1) <;> rfl
          rw [ei]
          unfold pBead
          have hFX : RFm M (begM (stI (riM M p) 0 24 (nI (p + 1))) 12 14 0) := (hC0.1.i 24 _ (by decide)).b (u := 0) (by decide) 14 (Nat.zero_le _)
          have hDX := hFX.D hS
          have hpX : mI (begM (stI (riM M p) 0 24 (nI (p + 1))) 12 14 0) 0 24 = nI (p + 1) := by rw [begM_oI _ _ _ _ (Or.inl rfl), mI_stI_v]
          have hfX : mI (begM (stI (riM M p) 0 24 (nI (p + 1))) 12 14 0) 0 25 = -1 := by rw [begM_oI _ _ _ _ (Or.inl rfl), mI_stI_o _ _ _ _ (by decide)]; exact hC0.2.2.1
          have hdX : mI (begM (stI (riM M p) 0 24 (nI (p + 1))) 12 14 0) 0 19 = 0 := by rw [begM_oI _ _ _ _ (Or.inl rfl), mI_stI_o _ _ _ _ (by decide)]; exact hs0.1
          have fin : ∀ (v : Int64) (q : Nat), QI M (.ok (q, rThg 14 v)) (some (.int (nI q))) (stL (stI (begM (stI (riM M p) 0 24 (nI (p + 1))) 12 14 0) 0 24 (nI q)) 3 12 v) := fun v q => by
            refine ⟨rfl, (hFX.i 24 _ (by decide)).t (by decide) v, ?_, ⟨by show 1 ≤ 12; omega, fun n hn => ?_⟩, fun z => absurd (show 14 < 14 from z) (by decide)⟩
            · rw [mI_stL_c, mI_stI_o _ _ _ _ (by decide)]; exact hfX
            · obtain rfl : n = 0 := by have : n < 1 := hn; omega
              refine ⟨(by decide : 14 < 16), Nat.zero_le _, ?_, ?_, fun _ => xup_s (stI (begM (stI (riM M p) 0 24 (nI (p + 1))) 12 14 0) 0 24 (nI q)).2.1 3 12 v, fun j hj => absurd hj (Nat.not_lt_zero _)⟩
              · rw [mI_stL_c, mI_stI_c _ _ _ (by decide), begM_1]; rfl
              · rw [mI_stL_c, mI_stI_c _ _ _ (by decide), begM_2]; rfl
          by_cases hc0 : p + 1 < L ∧ 0 ≤ B (p + 1) ∧ B (p + 1) < 6
          · rw [if_pos hc0]
            have hc1 : p + 1 < L ∧ 0 ≤ B (p + 1) ∧ B (p + 1) ≤ 5 := by omega
            have hb1 := (hS.2.2.2 (p + 1) hc0.1).2
            refine aw_aload_n dX6_readsItem_0 0 rfl ?_
            refine aw_iload_n dX6_readsItem_1 1 rfl ?_
            refine aw_putI dX6_readsItem_2 fl_X6_289 (Or.inl rfl) (hS.1.s 0 (by decide)) (hS.1.n 0 (by decide)) ?_
            refine aw_aload_n dX6_readsItem_5 0 rfl ?_
            refine aw_iconst (v := -1) dX6_readsItem_6 (by decide) ?_
            refine aw_putI dX6_readsItem_7 fl_X6_283 (Or.inl rfl) (((sT.I M 0 24 (nI p)).TR hS.1).s 0 (by decide)) (((sT.I M 0 24 (nI p)).TR hS.1).n 0 (by decide)) ?_
            refine aw_aload_n dX6_readsItem_10 0 rfl ?_
            refine aw_iconst (v := 0) dX6_readsItem_11 (by decide) ?_
            refine aw_putI dX6_readsItem_12 fl_X6_327 (Or.inl rfl) (((sT.I (stI M 0 24 (nI p)) 0 25 (-1)).TR ((sT.I M 0 24 (nI p)).TR hS.1)).s 0 (by decide)) (((sT.I (stI M 0 24 (nI p)) 0 25 (-1)).TR ((sT.I M 0 24 (nI p)).TR hS.1)).n 0 (by decide)) ?_
            refine aw_aload_n dX6_readsItem_15 0 rfl ?_
            refine aw_iconst (v := 0) dX6_readsItem_16 (by decide) ?_
            refine aw_putI dX6_readsItem_17 fl_X6_267 (Or.inl rfl) (((sT.I (stI (stI M 0 24 (nI p)) 0 25 (-1)) 0 26 0).TR ((sT.I (stI M 0 24 (nI p)) 0 25 (-1)).TR ((sT.I M 0 24 (nI p)).TR hS.1))).s 0 (by decide)) (((sT.I (stI (stI M 0 24 (nI p)) 0 25 (-1)) 0 26 0).TR ((sT.I (stI M 0 24 (nI p)) 0 25 (-1)).TR ((sT.I M 0 24 (nI p)).TR hS.1))).n 0 (by decide)) ?_
            refine aw_aload_n dX6_readsItem_20 0 rfl ?_
            refine aw_aload_n dX6_readsItem_21 0 rfl ?_
            refine aw_getI dX6_readsItem_22 fl_X6_289 (hD0.1.s 0 (by decide)) (hD0.1.n 0 (by decide)) ?_
            refine aw_topE hC0.2.1 ?_
            refine aw_callVi [.int (nI p)] [] (sp_by (d := d - 1) hD0 cl) dX6_readsItem_25 ml_X6_292 im_X6_byteAt (hD0.1.s 0 (by decide)) (hD0.1.n 0 (by decide)) rfl rfl (dl1 (d := d) (by omega)) rfl rfl (Nat.le_of_ble_eq_true rfl) rfl rfl (Nat.zero_le _) (Nat.zero_le _) ?_
            refine aw_istore_n [(2, .int (nI (B p))), (0, .ref 0), (1, .int (nI p))] dX6_readsItem_28 (Nat.le_of_ble_eq_true rfl) rfl ?_
            refine aw_iload_n dX6_readsItem_29 0 rfl ?_
            refine aw_bipush (v := 8) dX6_readsItem_30 (by decide) ?_
            refine aw_icmp_eqN (B p) 8 41 dX6_readsItem_32 (by decide) rfl rfl (by omega) (by omega) (fun c1 => absurd c1 (by omega)) (fun c1 => ?_)
            refine aw_iload_n dX6_readsItem_35 0 rfl ?_
            refine aw_bipush (v := 9) dX6_readsItem_36 (by decide) ?_
            refine aw_icmp_neN (B p) 9 101 dX6_readsItem_38 (by decide) rfl rfl (by omega) (by omega) (fun c2 => absurd (by omega) c2) (fun c2 => ?_)
            refine aw_aload_n dX6_readsItem_41 1 rfl ?_
            refine aw_dup dX6_readsItem_42 rfl ?_
            refine aw_getI dX6_readsItem_43 fl_X6_289 (hD0.1.s 0 (by decide)) (hD0.1.n 0 (by decide)) ?_
            refine aw_topE hC0.2.1 ?_
            refine aw_iconst (v := 1) dX6_readsItem_46 (by decide) ?_
            refine aw_iaddN p 1 dX6_readsItem_47 rfl rfl ?_
            refine aw_putI dX6_readsItem_48 fl_X6_289 (Or.inl rfl) (hD0.1.s 0 (by decide)) (hD0.1.n 0 (by decide)) ?_
            refine aw_aload_n dX6_readsItem_51 1 rfl ?_
            refine aw_bipush (v := 12) dX6_readsItem_52 (by decide) ?_
            refine aw_iload_n dX6_readsItem_54 0 rfl ?_
            refine aw_bipush (v := 8) dX6_readsItem_55 (by decide) ?_
            refine aw_icmp_neN (B p) 8 65 dX6_readsItem_57 (by decide) rfl rfl (by omega) (by omega) (fun c3 => ?_) (fun c3 => absurd c3 (by omega))
            refine aw_bipush (v := 14) dX6_readsItem_65 (by decide) ?_
            refine aw_iconst (v := 0) dX6_readsItem_67 (by decide) ?_
            refine aw_callVv [.int 12, .int 14, .int 0] [] (sp_X6_begins (d := d - 1) (by omega) 12 14 0 ((sT.I (riM M p) 0 24 (nI (p + 1))).TR hD0.1) (by decide)) dX6_readsItem_68 ml_X6_155 im_X6_begins (((sT.I (riM M p) 0 24 (nI (p + 1))).TR hD0.1).s 0 (by decide)) (((sT.I (riM M p) 0 24 (nI (p + 1))).TR hD0.1).n 0 (by decide)) rfl rfl (dl1 (d := d) (by omega)) rfl rfl (Nat.le_of_ble_eq_true rfl) rfl rfl (Nat.zero_le _) (Nat.zero_le _) ?_
            refine aw_aload_n dX6_readsItem_71 1 rfl ?_
            refine aw_getR (b := 3) dX6_readsItem_72 fl_X6_16 rfl (hDX.1.s 0 (by decide)) (hDX.1.n 0 (by decide)) (hDX.1.r 2) ?_
            refine aw_bipush (v := 12) dX6_readsItem_75 (by decide) ?_
            refine aw_iload_n dX6_readsItem_77 0 rfl ?_
            refine aw_bipush (v := 8) dX6_readsItem_78 (by decide) ?_
            refine aw_icmp_neN (B p) 8 90 dX6_readsItem_80 (by decide) rfl rfl (by omega) (by omega) (fun c4 => ?_) (fun c4 => absurd c4 (by omega))
            refine aw_aload_n dX6_readsItem_90 1 rfl ?_
            refine aw_iconst (v := 0) dX6_readsItem_91 (by decide) ?_
            refine aw_iconst (v := 5) dX6_readsItem_92 (by decide) ?_
            refine aw_callVi [.int 0, .int 5] [.int 12, .ref 3] (sp_p1k (d := d - 1) (by omega) 0 5 hDX hpX (by omega) hfX (by decide) (by decide) hc1) dX6_readsItem_93 ml_X6_320 im_X6_part1 (hDX.1.s 0 (by decide)) (hDX.1.n 0 (by decide)) rfl rfl (dl1 (d := d) (by omega)) rfl rfl (Nat.le_of_ble_eq_true rfl) rfl rfl (Nat.zero_le _) (Nat.zero_le _) ?_
            refine aw_i2lN (B (p + 1)) dX6_readsItem_96 rfl (by omega) ?_
            refine aw_lastN 12 dX6_readsItem_97 (((sT.I (begM (stI (riM M p) 0 24 (nI (p + 1))) 12 14 0) 0 24 (nI (p + 1 + 1))).TR hDX.1).s 3 (by decide)) (((sT.I (begM (stI (riM M p) 0 24 (nI (p + 1))) 12 14 0) 0 24 (nI (p + 1 + 1))).TR hDX.1).n 3 (by decide)) rfl (by omega) (by first | decide | omega) ?_
            refine aw_goto 123 dX6_readsItem_98 (by decide) ?_
            refine aw_sub [1, 2, 0] rfl ?_
            exact ri_end ((sT.L (stI (begM (stI (riM M p) 0 24 (nI (p + 1))) 12 14 0) 0 24 (nI (p + 1 + 1))) 3 12 (lN (B (p + 1)))).TR ((sT.I (begM (stI (riM M p) 0 24 (nI (p + 1))) 12 14 0) 0 24 (nI (p + 1 + 1))).TR hDX.1)) (by rw [mI_stL_c, mI_stI_o _ _ _ _ (by decide)]; exact hfX) ⟨by rw [mI_stL_c, mI_stI_o _ _ _ _ (by decide)]; exact hdX, fun i hi => absurd hi (Nat.not_lt_zero _)⟩ (by rw [mI_stL_c, mI_stI_v]) (fin (lN (B (p + 1))) (p + 1 + 1))
          · rw [if_neg hc0]
            have hc1 : ¬ (p + 1 < L ∧ 0 ≤ B (p + 1) ∧ B (p + 1) ≤ 5) := by omega
            refine aw_aload_n dX6_readsItem_0 0 rfl ?_
            refine aw_iload_n dX6_readsItem_1 1 rfl ?_
            refine aw_putI dX6_readsItem_2 fl_X6_289 (Or.inl rfl) (hS.1.s 0 (by decide)) (hS.1.n 0 (by decide)) ?_
            refine aw_aload_n dX6_readsItem_5 0 rfl ?_
            refine aw_iconst (v := -1) dX6_readsItem_6 (by decide) ?_
            refine aw_putI dX6_readsItem_7 fl_X6_283 (Or.inl rfl) (((sT.I M 0 24 (nI p)).TR hS.1).s 0 (by decide)) (((sT.I M 0 24 (nI p)).TR hS.1).n 0 (by decide)) ?_
            refine aw_aload_n dX6_readsItem_10 0 rfl ?_
            refine aw_iconst (v := 0) dX6_readsItem_11 (by decide) ?_
            refine aw_putI dX6_readsItem_12 fl_X6_327 (Or.inl rfl) (((sT.I (stI M 0 24 (nI p)) 0 25 (-1)).TR ((sT.I M 0 24 (nI p)).TR hS.1)).s 0 (by decide)) (((sT.I (stI M 0 24 (nI p)) 0 25 (-1)).TR ((sT.I M 0 24 (nI p)).TR hS.1)).n 0 (by decide)) ?_
            refine aw_aload_n dX6_readsItem_15 0 rfl ?_
            refine aw_iconst (v := 0) dX6_readsItem_16 (by decide) ?_
            refine aw_putI dX6_readsItem_17 fl_X6_267 (Or.inl rfl) (((sT.I (stI (stI M 0 24 (nI p)) 0 25 (-1)) 0 26 0).TR ((sT.I (stI M 0 24 (nI p)) 0 25 (-1)).TR ((sT.I M 0 24 (nI p)).TR hS.1))).s 0 (by decide)) (((sT.I (stI (stI M 0 24 (nI p)) 0 25 (-1)) 0 26 0).TR ((sT.I (stI M 0 24 (nI p)) 0 25 (-1)).TR ((sT.I M 0 24 (nI p)).TR hS.1))).n 0 (by decide)) ?_
            refine aw_aload_n dX6_readsItem_20 0 rfl ?_
            refine aw_aload_n dX6_readsItem_21 0 rfl ?_
            refine aw_getI dX6_readsItem_22 fl_X6_289 (hD0.1.s 0 (by decide)) (hD0.1.n 0 (by decide)) ?_
            refine aw_topE hC0.2.1 ?_
            refine aw_callVi [.int (nI p)] [] (sp_by (d := d - 1) hD0 cl) dX6_readsItem_25 ml_X6_292 im_X6_byteAt (hD0.1.s 0 (by decide)) (hD0.1.n 0 (by decide)) rfl rfl (dl1 (d := d) (by omega)) rfl rfl (Nat.le_of_ble_eq_true rfl) rfl rfl (Nat.zero_le _) (Nat.zero_le _) ?_
            refine aw_istore_n [(2, .int (nI (B p))), (0, .ref 0), (1, .int (nI p))] dX6_readsItem_28 (Nat.le_of_ble_eq_true rfl) rfl ?_
            refine aw_iload_n dX6_readsItem_29 0 rfl ?_
            refine aw_bipush (v := 8) dX6_readsItem_30 (by decide) ?_
            refine aw_icmp_eqN (B p) 8 41 dX6_readsItem_32 (by decide) rfl rfl (by omega) (by omega) (fun c1 => absurd c1 (by omega)) (fun c1 => ?_)
            refine aw_iload_n dX6_readsItem_35 0 rfl ?_
            refine aw_bipush (v := 9) dX6_readsItem_36 (by decide) ?_
            refine aw_icmp_neN (B p) 9 101 dX6_readsItem_38 (by decide) rfl rfl (by omega) (by omega) (fun c2 => absurd (by omega) c2) (fun c2 => ?_)
            refine aw_aload_n dX6_readsItem_41 1 rfl ?_
            refine aw_dup dX6_readsItem_42 rfl ?_
            refine aw_getI dX6_readsItem_43 fl_X6_289 (hD0.1.s 0 (by decide)) (hD0.1.n 0 (by decide)) ?_
            refine aw_topE hC0.2.1 ?_
            refine aw_iconst (v := 1) dX6_readsItem_46 (by decide) ?_
            refine aw_iaddN p 1 dX6_readsItem_47 rfl rfl ?_
            refine aw_putI dX6_readsItem_48 fl_X6_289 (Or.inl rfl) (hD0.1.s 0 (by decide)) (hD0.1.n 0 (by decide)) ?_
            refine aw_aload_n dX6_readsItem_51 1 rfl ?_
            refine aw_bipush (v := 12) dX6_readsItem_52 (by decide) ?_
            refine aw_iload_n dX6_readsItem_54 0 rfl ?_
            refine aw_bipush (v := 8) dX6_readsItem_55 (by decide) ?_
            refine aw_icmp_neN (B p) 8 65 dX6_readsItem_57 (by decide) rfl rfl (by omega) (by omega) (fun c3 => ?_) (fun c3 => absurd c3 (by omega))
            refine aw_bipush (v := 14) dX6_readsItem_65 (by decide) ?_
            refine aw_iconst (v := 0) dX6_readsItem_67 (by decide) ?_
            refine aw_callVv [.int 12, .int 14, .int 0] [] (sp_X6_begins (d := d - 1) (by omega) 12 14 0 ((sT.I (riM M p) 0 24 (nI (p + 1))).TR hD0.1) (by decide)) dX6_readsItem_68 ml_X6_155 im_X6_begins (((sT.I (riM M p) 0 24 (nI (p + 1))).TR hD0.1).s 0 (by decide)) (((sT.I (riM M p) 0 24 (nI (p + 1))).TR hD0.1).n 0 (by decide)) rfl rfl (dl1 (d := d) (by omega)) rfl rfl (Nat.le_of_ble_eq_true rfl) rfl rfl (Nat.zero_le _) (Nat.zero_le _) ?_
            refine aw_aload_n dX6_readsItem_71 1 rfl ?_
            refine aw_getR (b := 3) dX6_readsItem_72 fl_X6_16 rfl (hDX.1.s 0 (by decide)) (hDX.1.n 0 (by decide)) (hDX.1.r 2) ?_
            refine aw_bipush (v := 12) dX6_readsItem_75 (by decide) ?_
            refine aw_iload_n dX6_readsItem_77 0 rfl ?_
            refine aw_bipush (v := 8) dX6_readsItem_78 (by decide) ?_
            refine aw_icmp_neN (B p) 8 90 dX6_readsItem_80 (by decide) rfl rfl (by omega) (by omega) (fun c4 => ?_) (fun c4 => absurd c4 (by omega))
            refine aw_aload_n dX6_readsItem_90 1 rfl ?_
            refine aw_iconst (v := 0) dX6_readsItem_91 (by decide) ?_
            refine aw_iconst (v := 5) dX6_readsItem_92 (by decide) ?_
            refine aw_callVi [.int 0, .int 5] [.int 12, .ref 3] (sp_p1f (d := d - 1) (by omega) 0 5 hDX hpX (by omega) hfX (by decide) (by decide) hc1) dX6_readsItem_93 ml_X6_320 im_X6_part1 (hDX.1.s 0 (by decide)) (hDX.1.n 0 (by decide)) rfl rfl (dl1 (d := d) (by omega)) rfl rfl (Nat.le_of_ble_eq_true rfl) rfl rfl (Nat.zero_le _) (Nat.zero_le _) ?_
            refine aw_i2l dX6_readsItem_96 ?_
            refine aw_lastN 12 dX6_readsItem_97 (((sT.I (begM (stI (riM M p) 0 24 (nI (p + 1))) 12 14 0) 0 25 (nI (p + 1))).TR hDX.1).s 3 (by decide)) (((sT.I (begM (stI (riM M p) 0 24 (nI (p + 1))) 12 14 0) 0 25 (nI (p + 1))).TR hDX.1).n 3 (by decide)) rfl (by omega) (by first | decide | omega) ?_
            refine aw_goto 123 dX6_readsItem_98 (by decide) ?_
            refine aw_sub [1, 2, 0] rfl ?_
            exact ri_err ((sT.L (stI (begM (stI (riM M p) 0 24 (nI (p + 1))) 12 14 0) 0 25 (nI (p + 1))) 3 12 (Int32.toInt64 (-1))).TR ((sT.I (begM (stI (riM M p) 0 24 (nI (p + 1))) 12 14 0) 0 25 (nI (p + 1))).TR hDX.1)) (f := p + 1) (mI_stI_v (begM (stI (riM M p) 0 24 (nI (p + 1))) 12 14 0) 0 25 (nI (p + 1))) (by omega) ⟨⟨_, rfl⟩, (hFX.i 25 _ (by decide)).t (by decide) (Int32.toInt64 (-1)), mI_stI_v (begM (stI (riM M p) 0 24 (nI (p + 1))) 12 14 0) 0 25 (nI (p + 1))⟩
        · have ei : pItem B L p = .error p := by unfold pItem; rw [if_pos cl, if_neg htag, if_neg c8, if_neg c9]
          rw [ei]
          refine aw_aload_n dX6_readsItem_0 0 rfl ?_
          refine aw_iload_n dX6_readsItem_1 1 rfl ?_
          refine aw_putI dX6_readsItem_2 fl_X6_289 (Or.inl rfl) (hS.1.s 0 (by decide)) (hS.1.n 0 (by decide)) ?_
          refine aw_aload_n dX6_readsItem_5 0 rfl ?_
          refine aw_iconst (v := -1) dX6_readsItem_6 (by decide) ?_
          refine aw_putI dX6_readsItem_7 fl_X6_283 (Or.inl rfl) (((sT.I M 0 24 (nI p)).TR hS.1).s 0 (by decide)) (((sT.I M 0 24 (nI p)).TR hS.1).n 0 (by decide)) ?_
          refine aw_aload_n dX6_readsItem_10 0 rfl ?_
          refine aw_iconst (v := 0) dX6_readsItem_11 (by decide) ?_
          refine aw_putI dX6_readsItem_12 fl_X6_327 (Or.inl rfl) (((sT.I (stI M 0 24 (nI p)) 0 25 (-1)).TR ((sT.I M 0 24 (nI p)).TR hS.1)).s 0 (by decide)) (((sT.I (stI M 0 24 (nI p)) 0 25 (-1)).TR ((sT.I M 0 24 (nI p)).TR hS.1)).n 0 (by decide)) ?_
          refine aw_aload_n dX6_readsItem_15 0 rfl ?_
          refine aw_iconst (v := 0) dX6_readsItem_16 (by decide) ?_
          refine aw_putI dX6_readsItem_17 fl_X6_267 (Or.inl rfl) (((sT.I (stI (stI M 0 24 (nI p)) 0 25 (-1)) 0 26 0).TR ((sT.I (stI M 0 24 (nI p)) 0 25 (-1)).TR ((sT.I M 0 24 (nI p)).TR hS.1))).s 0 (by decide)) (((sT.I (stI (stI M 0 24 (nI p)) 0 25 (-1)) 0 26 0).TR ((sT.I (stI M 0 24 (nI p)) 0 25 (-1)).TR ((sT.I M 0 24 (nI p)).TR hS.1))).n 0 (by decide)) ?_
          refine aw_aload_n dX6_readsItem_20 0 rfl ?_
          refine aw_aload_n dX6_readsItem_21 0 rfl ?_
          refine aw_getI dX6_readsItem_22 fl_X6_289 (hD0.1.s 0 (by decide)) (hD0.1.n 0 (by decide)) ?_
          refine aw_topE hC0.2.1 ?_
          refine aw_callVi [.int (nI p)] [] (sp_by (d := d - 1) hD0 cl) dX6_readsItem_25 ml_X6_292 im_X6_byteAt (hD0.1.s 0 (by decide)) (hD0.1.n 0 (by decide)) rfl rfl (dl1 (d := d) (by omega)) rfl rfl (Nat.le_of_ble_eq_true rfl) rfl rfl (Nat.zero_le _) (Nat.zero_le _) ?_
          refine aw_istore_n [(2, .int (nI (B p))), (0, .ref 0), (1, .int (nI p))] dX6_readsItem_28 (Nat.le_of_ble_eq_true rfl) rfl ?_
          refine aw_iload_n dX6_readsItem_29 0 rfl ?_
          refine aw_bipush (v := 8) dX6_readsItem_30 (by decide) ?_
          refine aw_icmp_eqN (B p) 8 41 dX6_readsItem_32 (by decide) rfl rfl (by omega) (by omega) (fun c1 => absurd c1 (by omega)) (fun c1 => ?_)
          refine aw_iload_n dX6_readsItem_35 0 rfl ?_
          refine aw_bipush (v := 9) dX6_readsItem_36 (by decide) ?_
          refine aw_icmp_neN (B p) 9 101 dX6_readsItem_38 (by decide) rfl rfl (by omega) (by omega) (fun c2 => ?_) (fun c2 => absurd c2 (by omega))
          refine aw_iload_n dX6_readsItem_101 0 rfl ?_
          refine aw_callSi [.int (nI (B p))] [] (sp_X6_isRowTag (d := d - 1) (by omega) (nI (B p))) dX6_readsItem_102 ml_X6_339 sm_X6_isRowTag rfl (dl1 (d := d) (by omega)) rfl rfl (Nat.le_of_ble_eq_true rfl) rfl rfl (Nat.zero_le _) (Nat.zero_le _) ?_
          refine aw_if_eq 115 dX6_readsItem_105 (by decide) (fun c3 => ?_) (fun c3 => absurd (bz_0.mpr htg) c3)
          refine aw_aload_n dX6_readsItem_115 1 rfl ?_
          refine aw_aload_n dX6_readsItem_116 1 rfl ?_
          refine aw_getI dX6_readsItem_117 fl_X6_289 (hD0.1.s 0 (by decide)) (hD0.1.n 0 (by decide)) ?_
          refine aw_topE hC0.2.1 ?_
          refine aw_callVv [.int (nI p)] [] (sp_fa (d := d - 1) (nI p) hD0.1 hC0.2.2.1) dX6_readsItem_120 ml_X6_295 im_X6_faults (hD0.1.s 0 (by decide)) (hD0.1.n 0 (by decide)) rfl rfl (dl1 (d := d) (by omega)) rfl rfl (Nat.le_of_ble_eq_true rfl) rfl rfl (Nat.zero_le _) (Nat.zero_le _) ?_
          refine aw_sub [1, 2, 0] rfl ?_
          exact ri_err ((sT.I (riM M p) 0 25 (nI p)).TR hD0.1) (f := p) (mI_stI_v _ _ _ _) (by omega) ⟨⟨_, rfl⟩, hC0.1.i 25 _ (by decide), mI_stI_v _ _ _ _⟩
  · have ei : pItem B L p = .error p := by unfold pItem; rw [if_neg cl]
    rw [ei]
    refine aw_aload_n dX6_readsItem_0 0 rfl ?_
    refine aw_iload_n dX6_readsItem_1 1 rfl ?_
    refine aw_putI dX6_readsItem_2 fl_X6_289 (Or.inl rfl) (hS.1.s 0 (by decide)) (hS.1.n 0 (by decide)) ?_
    refine aw_aload_n dX6_readsItem_5 0 rfl ?_
    refine aw_iconst (v := -1) dX6_readsItem_6 (by decide) ?_
    refine aw_putI dX6_readsItem_7 fl_X6_283 (Or.inl rfl) (((sT.I M 0 24 (nI p)).TR hS.1).s 0 (by decide)) (((sT.I M 0 24 (nI p)).TR hS.1).n 0 (by decide)) ?_
    refine aw_aload_n dX6_readsItem_10 0 rfl ?_
    refine aw_iconst (v := 0) dX6_readsItem_11 (by decide) ?_
    refine aw_putI dX6_readsItem_12 fl_X6_327 (Or.inl rfl) (((sT.I (stI M 0 24 (nI p)) 0 25 (-1)).TR ((sT.I M 0 24 (nI p)).TR hS.1)).s 0 (by decide)) (((sT.I (stI M 0 24 (nI p)) 0 25 (-1)).TR ((sT.I M 0 24 (nI p)).TR hS.1)).n 0 (by decide)) ?_
    refine aw_aload_n dX6_readsItem_15 0 rfl ?_
    refine aw_iconst (v := 0) dX6_readsItem_16 (by decide) ?_
    refine aw_putI dX6_readsItem_17 fl_X6_267 (Or.inl rfl) (((sT.I (stI (stI M 0 24 (nI p)) 0 25 (-1)) 0 26 0).TR ((sT.I (stI M 0 24 (nI p)) 0 25 (-1)).TR ((sT.I M 0 24 (nI p)).TR hS.1))).s 0 (by decide)) (((sT.I (stI (stI M 0 24 (nI p)) 0 25 (-1)) 0 26 0).TR ((sT.I (stI M 0 24 (nI p)) 0 25 (-1)).TR ((sT.I M 0 24 (nI p)).TR hS.1))).n 0 (by decide)) ?_
    refine aw_aload_n dX6_readsItem_20 0 rfl ?_
    refine aw_aload_n dX6_readsItem_21 0 rfl ?_
    refine aw_getI dX6_readsItem_22 fl_X6_289 (hD0.1.s 0 (by decide)) (hD0.1.n 0 (by decide)) ?_
    refine aw_topE hC0.2.1 ?_
    refine aw_callVi [.int (nI p)] [] (sp_byn (d := d - 1) hD0 cl (by omega)) dX6_readsItem_25 ml_X6_292 im_X6_byteAt (hD0.1.s 0 (by decide)) (hD0.1.n 0 (by decide)) rfl rfl (dl1 (d := d) (by omega)) rfl rfl (Nat.le_of_ble_eq_true rfl) rfl rfl (Nat.zero_le _) (Nat.zero_le _) ?_
    refine aw_istore_n [(2, .int (-1)), (0, .ref 0), (1, .int (nI p))] dX6_readsItem_28 (Nat.le_of_ble_eq_true rfl) rfl ?_
    refine aw_iload_n dX6_readsItem_29 0 rfl ?_
    refine aw_bipush (v := 8) dX6_readsItem_30 (by decide) ?_
    refine aw_icmp_eq 41 dX6_readsItem_32 (by decide) (fun c1 => absurd c1 (by decide)) (fun c1 => ?_)
    refine aw_iload_n dX6_readsItem_35 0 rfl ?_
    refine aw_bipush (v := 9) dX6_readsItem_36 (by decide) ?_
    refine aw_icmp_ne 101 dX6_readsItem_38 (by decide) (fun c2 => ?_) (fun c2 => absurd c2 (by decide))
    refine aw_iload_n dX6_readsItem_101 0 rfl ?_
    refine aw_callSi [.int (-1)] [] (sp_X6_isRowTag (d := d - 1) (by omega) (-1)) dX6_readsItem_102 ml_X6_339 sm_X6_isRowTag rfl (dl1 (d := d) (by omega)) rfl rfl (Nat.le_of_ble_eq_true rfl) rfl rfl (Nat.zero_le _) (Nat.zero_le _) ?_
    refine aw_if_eq 115 dX6_readsItem_105 (by decide) (fun c3 => ?_) (fun c3 => absurd (by decide) c3)
    refine aw_aload_n dX6_readsItem_115 1 rfl ?_
    refine aw_aload_n dX6_readsItem_116 1 rfl ?_
    refine aw_getI dX6_readsItem_117 fl_X6_289 (hD0.1.s 0 (by decide)) (hD0.1.n 0 (by decide)) ?_
    refine aw_topE hC0.2.1 ?_
    refine aw_callVv [.int (nI p)] [] (sp_fa (d := d - 1) (nI p) hD0.1 hC0.2.2.1) dX6_readsItem_120 ml_X6_295 im_X6_faults (hD0.1.s 0 (by decide)) (hD0.1.n 0 (by decide)) rfl rfl (dl1 (d := d) (by omega)) rfl rfl (Nat.le_of_ble_eq_true rfl) rfl rfl (Nat.zero_le _) (Nat.zero_le _) ?_
    refine aw_sub [1, 2, 0] rfl ?_
    exact ri_err ((sT.I (riM M p) 0 25 (nI p)).TR hD0.1) (f := p) (mI_stI_v _ _ _ _) (by omega) ⟨⟨_, rfl⟩, hC0.1.i 25 _ (by decide), mI_stI_v _ _ _ _⟩
