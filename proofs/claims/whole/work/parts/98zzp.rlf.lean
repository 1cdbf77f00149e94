-- AN ITEM THAT WAS READ, FOR THE WRITERS; RELAY: the face
theorem rKap_lt {R : pR} {t : Nat} (h : rKap R t < 16) : t < R.1 ∧ rKap R t = rK R t := by
  by_cases c : t < R.1
  · exact ⟨c, if_pos c⟩
  · rw [show rKap R t = 16 from if_neg c] at h; omega
theorem iOk_c {R : pR} (h : iOk R) {t : Nat} (hk : rKap R t < 14) : t < R.1 ∧ rKap R t = rK R t ∧ rZ R t ≤ 12 ∧ ∀ j, j < rZ R t → okC (rKap R) (rK R t) (rW R t j) (rV R t j) := by
  obtain ⟨c, e⟩ := rKap_lt (show rKap R t < 16 by omega)
  rcases h with ⟨h1, -, -⟩ | ⟨h1, h2, h3, h4, h5⟩
  · exact ⟨c, e, (h1.2 t c).2.1, (h1.2 t c).2.2⟩
  · have : t = 0 := by omega
    subst this
    omega
theorem iOk_lk {R : pR} (h : iOk R) : lkOk (rKap R) (rZ R) (rW R) (rV R) := by
  intro t ht hk
  obtain ⟨c, e, z, hc⟩ := iOk_c h hk
  refine ⟨z, fun j hj => ?_⟩
  obtain ⟨o1, -, -, -, -, -, -, -, o8, -, o10, -⟩ := hc j hj
  refine ⟨o1, fun q => ?_, fun q => ?_⟩
  · obtain ⟨u, u1, u2, u3, -⟩ := o10 q
    exact ⟨u, u1, u2, u3⟩
  · obtain ⟨c, d1, d2, d3⟩ := wrd_c (o8 q)
    exact ⟨c, Nat.lt_trans d2 (by decide), d3⟩
theorem iOk_by {R : pR} (h : iOk R) : byOk (rKap R) (rZ R) (rW R) (rV R) := by
  intro t ht hk j hj
  obtain ⟨c, e, z, hc⟩ := iOk_c h hk
  obtain ⟨o1, o2, -, -, -, -, -, oN, o8, o9, o10, -⟩ := hc j hj
  exact ⟨oN, o9, fun q => by rw [e] at q ⊢; exact o2 q⟩
theorem iOk_0 {R : pR} (h : iOk R) : 0 < R.1 ∧ R.1 ≤ 12 ∧ rKap R 0 = rK R 0 ∧ rK R 0 < 16 ∧ (rK R 0 = 15 → ∃ c, 0 < c ∧ c < 27 ^ 7 ∧ rV R 0 0 = lN c) ∧ (rK R 0 = 14 → ∃ b, b < 6 ∧ rV R 0 0 = lN b) := by
  rcases h with ⟨h1, h2, h3⟩ | ⟨h1, h2, h3, h4, h5⟩
  · exact ⟨h2, h1.1, if_pos h2, by omega, fun z => by omega, fun z => by omega⟩
  · exact ⟨by omega, by omega, if_pos (by omega), h4, fun z => wrd_c (h5.2 z), fun z => h5.1 z⟩
theorem it_W {A : xM} {R : pR} (hT : TC A) (h : CSr R A) (hi : iOk R) : WrR A 50 9 6 (rKap R) (rZ R) (rW R) (rV R) := by
  refine ⟨⟨hT.s 50 (by decide), hT.n 50 (by decide), hT.r 50 0 (by decide) (by decide), hT.r 50 1 (by decide) (by decide), hT.r 50 2 (by decide) (by decide), hT.s 51 (by decide), hT.n 51 (by decide), hT.theirs, hT.s 9 (by decide), hT.n 9 (by decide)⟩, by decide, iOk_lk hi, fun t ht hk => ?_⟩
  obtain ⟨c, e⟩ := rKap_lt hk
  obtain ⟨a1, a2, a3, a4, a5, a6⟩ := h.2 t c
  exact ⟨10 + 3 * t, hT.rslot ht, hT.rrow ht, by omega, Or.inl (by omega), by rw [e]; exact a3, a4, fun z => a5 (by rw [← e]; exact z), a6⟩
theorem it_D {C : xM} {R : pR} (hT : TR C) (h : RSr R C) (hi : iOk R) : RfD C 12 (rKap R) (rZ R) (rW R) (rV R) := by
  refine ⟨hT, by decide, iOk_lk hi, fun t ht hk => ?_⟩
  obtain ⟨c, e, z, hc⟩ := iOk_c hi hk
  obtain ⟨a1, a2, a3, a4, a5, a6⟩ := h.2 t c
  refine ⟨by rw [e]; exact a3, a4, fun j hj => ?_⟩
  obtain ⟨o1, o2, -, -, -, -, -, oN, o8, -, o10, -⟩ := hc j hj
  refine ⟨(a6 j hj).1, fun q => ?_, fun q => ?_, oN, fun q => ?_, fun q => by rw [e] at q ⊢; exact o2 q⟩
  · exact (a6 j hj).2.trans (if_pos q)
  · exact (a6 j hj).2.trans (if_neg q)
  · obtain ⟨c, d1, d2, d3⟩ := wrd_c (o8 q)
    rw [d3, lC_N (Nat.lt_trans d2 (by decide))]
    exact ⟨d1, d2⟩
theorem it_wr {d : Nat} (hd : 48 ≤ d) {A : xM} {R : pR} (hT : TC A) (h : CSr R A) (hi : iOk R) {m : Nat} (hm : m < 3) : Sp (fX4_write d) [.ref 50, .int (nI 0), .int (nI m)] A (dt none (emM (nuM (wrM A 50 6 m) 50 (itR m (rKap R) (rZ R) (rW R) (rV R) 0).2) 6 1 (6 + 1) (itR m (rKap R) (rZ R) (rW R) (rV R) 0).1)) := by
  obtain ⟨i1, i2, i3, i4, i5, -⟩ := iOk_0 hi
  exact sp_write hd (it_W hT h hi) hm (by decide) (by rw [i3]; exact i4) (fun q => by
    obtain ⟨c, c1, c2, c3⟩ := i5 (by rw [← i3]; exact q)
    exact ⟨c, Nat.lt_trans c2 (by decide), c3⟩)
theorem it_la {d : Nat} (hd : 21 ≤ d) {C : xM} {R : pR} (hT : TR C) (h : RSr R C) (hi : iOk R) {m : Nat} (hm : m < 3) : Sp (fX6_laysAll d) [.ref 0, .int 12, .int (nI m)] C (fun r A => r = some (.int (nI (itR m (rKap R) (rZ R) (rW R) (rV R) 0).1.length)) ∧ ∃ T, LR C 12 (itR m (rKap R) (rZ R) (rW R) (rV R) 0).2 [] T ∧ A = emM T 0 13 8 (itR m (rKap R) (rZ R) (rW R) (rV R) 0).1) := by
  obtain ⟨i1, i2, i3, i4, i5, -⟩ := iOk_0 hi
  obtain ⟨a1, a2, a3, a4, a5, a6⟩ := h.2 0 i1
  exact sp_la (t := 0) hd (it_D hT h hi) hm (by decide) (by rw [i3]; exact i4) (by rw [i3]; exact a3) (fun q => a5 (by rw [← i3]; exact q)) (fun q => i5 (by rw [← i3]; exact q))
theorem it_b {R : pR} (hi : iOk R) {m : Nat} (hm : m < 3) : allB (itR m (rKap R) (rZ R) (rW R) (rV R) 0).1 ∧ (itR m (rKap R) (rZ R) (rW R) (rV R) 0).1.length ≤ 1464 := by
  obtain ⟨i1, i2, i3, i4, -, i6⟩ := iOk_0 hi
  exact ⟨itR_b hm (iOk_lk hi) (iOk_by hi) (by decide) (fun q => i6 (by rw [← i3]; exact q)) (by rw [i3]; exact i4), itR_len (iOk_lk hi) (by decide)⟩
theorem wr_50 {A : xM} (hT : TC A) (m : Nat) (ms : List Nat) (l : List Int32) : TC (emM (nuM (wrM A 50 6 m) 50 ms) 6 1 (6 + 1) l) ∧ mI (emM (nuM (wrM A 50 6 m) 50 ms) 6 1 (6 + 1) l) 2 = mI A 2 ∧ mI (emM (nuM (wrM A 50 6 m) 50 ms) 6 1 (6 + 1) l) 6 1 = nI l.length ∧ ∀ i, i < l.length → mI (emM (nuM (wrM A 50 6 m) 50 ms) 6 1 (6 + 1) l) 7 i = l.getD i 0 :=
  ⟨(show sT A (emM (nuM (wrM A 50 6 m) 50 ms) 6 1 (6 + 1) l) from ⟨rfl, rfl, rfl⟩).TC hT, wr_I A ms l (by decide) (by decide) (by decide) (by decide), emM_f _ _ _ _ _, fun i hi => emM_c _ _ hi (by decide)⟩
theorem fc_relay : Fc_relay Rel := by
  intro a0 MC MR hR
  rcases mode_cases a0 with ⟨m1, m2⟩ | ⟨m, hm, rfl, m1, m2⟩
  · exact fcI (sp_X5_relay_b (d := 200) (by decide) a0 hR.1 m1) (sp_X6_relay_b (d := 200) (by decide) a0 hR.2.1 m2) rfl (Rel_tells hR _ _)
  · rw [nIL (by omega)] at m2
    obtain ⟨L, p, l1, l2, l3, l4, l5, l6, -⟩ := RelB_len hR
    obtain ⟨s1, s2, s3⟩ := tp_S hR l4 l1
    have hti := sp_ti (d := 199) (by decide) hR.1 (s2 p) l2
    have hri := sp_ri (d := 199) (by decide) s1 (hR.2.2.1.k (ftM_I MR L (by decide) (by decide))) l2
    cases e : pItem (tpB MR) L p with
    | error f =>
      rw [e] at hti hri
      have hf := pItem_e e l2
      refine fcX2 (sp_X5_relay_f (d := 200) (P := fun A => CF (itM MC 2 p) A ∧ mI A 8 3 = nI f) (by decide) hR.1 l5 hm m1 hti (fun A h => ⟨(rd_C hR (Or.inl rfl) h.1).1, h.2⟩)) (sp_X6_relay_f (d := 200) (P := fun C => RFm (ftM MR L) C ∧ mI C 0 25 = nI f) (by decide) hR.2.1 l4 l1 l6 hm m2 hri (by omega) (fun C h => ⟨(rd_R hR h.1).1, h.2⟩)) rfl ?_
      rintro B D ⟨A, hA, rfl⟩ ⟨C, hC, rfl⟩
      exact Rel_tells (rd_Rel hR (Or.inl rfl) hA.1 hC.1).1 _ _
    | ok pr =>
      rw [e] at hti hri
      obtain ⟨hi, hq⟩ := pItem_ok s3 e
      obtain ⟨hb, hlen⟩ := it_b hi hm
      have hw : ∀ A, CS (itM MC 2 p) pr.1 pr.2 A → Sp (fX4_write 199) [.ref 50, .int (nI 0), .int (nI m)] A (dt none (emM (nuM (wrM A 50 6 m) 50 (itR m (rKap pr.2) (rZ pr.2) (rW pr.2) (rV pr.2) 0).2) 6 1 (6 + 1) (itR m (rKap pr.2) (rZ pr.2) (rW pr.2) (rV pr.2) 0).1)) := fun A h => it_wr (by decide) (rd_C hR (Or.inl rfl) h.1).1 h.2.2.2.2 hi hm
      have hla : ∀ C, (RFm (ftM MR L) C ∧ mI C 0 25 = -1 ∧ RSr pr.2 C ∧ (rK pr.2 0 < 14 → mI C 0 26 = nI pr.2.1)) → Sp (fX6_laysAll 199) [.ref 0, .int 12, .int (nI m)] C (fun r D => r = some (.int (nI (itR m (rKap pr.2) (rZ pr.2) (rW pr.2) (rV pr.2) 0).1.length)) ∧ ∃ C', RFm (ftM MR L) C' ∧ ∃ T, LR C' 12 (itR m (rKap pr.2) (rZ pr.2) (rW pr.2) (rV pr.2) 0).2 [] T ∧ D = emM T 0 13 8 (itR m (rKap pr.2) (rZ pr.2) (rW pr.2) (rV pr.2) 0).1) := fun C h => (it_la (by decide) (rd_R hR h.1).1 h.2.2.1 hi hm).weaken (fun r D hD => ⟨hD.1, C, h.1, hD.2⟩)
      generalize itR m (rKap pr.2) (rZ pr.2) (rW pr.2) (rV pr.2) 0 = it at hb hlen hw hla
      have hWA : ∀ A, CS (itM MC 2 p) pr.1 pr.2 A → TC (emM (nuM (wrM A 50 6 m) 50 it.2) 6 1 (6 + 1) it.1) ∧ mI (emM (nuM (wrM A 50 6 m) 50 it.2) 6 1 (6 + 1) it.1) 2 1 = nI L ∧ mI (emM (nuM (wrM A 50 6 m) 50 it.2) 6 1 (6 + 1) it.1) 6 1 = nI it.1.length := by
        intro A h
        obtain ⟨w1, w2, w3, -⟩ := wr_50 (rd_C hR (Or.inl rfl) h.1).1 m it.2 it.1
        exact ⟨w1, by rw [w2, (rd_C hR (Or.inl rfl) h.1).2 2 (Or.inr (Or.inl rfl))]; exact l3, w3⟩
      have hq1 : ∀ D, (∃ C', RFm (ftM MR L) C' ∧ ∃ T, LR C' 12 it.2 [] T ∧ D = emM T 0 13 8 it.1) → TR D ∧ mI D 0 6 = nI L ∧ mI D 0 13 = nI it.1.length ∧ (∀ i, i < it.1.length → mI D 8 i = it.1.getD i 0) ∧ ∀ A, CS (itM MC 2 p) pr.1 pr.2 A → Rel (emM (nuM (wrM A 50 6 m) 50 it.2) 6 1 (6 + 1) it.1) D := by
        rintro D ⟨C, hC, T, hT, rfl⟩
        have hrd := rd_R hR hC
        refine ⟨(sT_emM T 0 13 8 it.1).TR (hT.1.TR hrd.1), ?_, emM_f _ _ _ _ _, fun i hi => emM_c _ _ hi (by decide), fun A hA => ?_⟩
        · rw [emM_a _ _ (by decide) (by decide), hT.2.2.2.1 6 (by decide) (by decide) (by decide), hrd.2.2]; exact l4
        · exact (Rel_laR (Rel_wrC (rd_Rel hR (Or.inl rfl) hA.1 hC).1 (Or.inr (Or.inr ⟨rfl, rfl⟩)) it.2 it.1) hT it.1).1
      by_cases hf : L + it.1.length ≤ 200
      · refine fcX2 (sp_X5_relay_k (d := 200) (P := fun A => CS (itM MC 2 p) pr.1 pr.2 A) (WA := fun A => emM (nuM (wrM A 50 6 m) 50 it.2) 6 1 (6 + 1) it.1) (by decide) hR.1 m1 l5 hti (fun A h => (rd_C hR (Or.inl rfl) h.1).1) hw hWA l1 hlen hf) (sp_X6_relay_k (d := 200) (P := fun C => RFm (ftM MR L) C ∧ mI C 0 25 = -1 ∧ RSr pr.2 C ∧ (rK pr.2 0 < 14 → mI C 0 26 = nI pr.2.1)) (Q2 := fun E => ∃ D, (∃ C', RFm (ftM MR L) C' ∧ ∃ T, LR C' 12 it.2 [] T ∧ D = emM T 0 13 8 it.1) ∧ E = emA D 0 6 6 L it.1.length (mI D 8)) (by decide) (n := it.1.length) (by omega) hR.2.1 l4 l1 l6 hm m2 hri (fun C h => ⟨(rd_R hR h.1).1, h.2.1⟩) hla (fun D hD => (hq1 D hD).1) (fun E hE => ?_) (fun D hD => (sp_co_k (hq1 D hD).1 (hq1 D hD).2.1 (hq1 D hD).2.2.1 l1 (by omega) hf).weaken (fun r E h => ⟨h.1, D, hD, h.2⟩))) rfl ?_
        · obtain ⟨D, hD, rfl⟩ := hE
          exact (sT_emA D 0 6 6 L it.1.length _).TR (hq1 D hD).1
        · rintro B B' ⟨A, hA, rfl⟩ ⟨E, ⟨D, hD, rfl⟩, rfl⟩
          obtain ⟨q1, q2, q3, q4, q5⟩ := hq1 D hD
          obtain ⟨w1, w2, w3, w4⟩ := wr_50 (rd_C hR (Or.inl rfl) hA.1).1 m it.2 it.1
          exact Rel_tells (Rel_app (q5 A hA) it.1 rfl (hWA A hA).2.1 l1 hf w4 q4 hb) _ _
      · refine fcX2 (sp_X5_relay_u (d := 200) (P := fun A => CS (itM MC 2 p) pr.1 pr.2 A) (WA := fun A => emM (nuM (wrM A 50 6 m) 50 it.2) 6 1 (6 + 1) it.1) (by decide) hR.1 m1 l5 hti (fun A h => (rd_C hR (Or.inl rfl) h.1).1) hw hWA l1 hlen (by omega)) (sp_X6_relay_u (d := 200) (P := fun C => RFm (ftM MR L) C ∧ mI C 0 25 = -1 ∧ RSr pr.2 C ∧ (rK pr.2 0 < 14 → mI C 0 26 = nI pr.2.1)) (Q2 := fun D => ∃ C', RFm (ftM MR L) C' ∧ ∃ T, LR C' 12 it.2 [] T ∧ D = emM T 0 13 8 it.1) (by decide) hR.2.1 l4 l1 l6 hm m2 hri (fun C h => ⟨(rd_R hR h.1).1, h.2.1⟩) hla (fun D hD => (hq1 D hD).1) (fun D hD => (hq1 D hD).1) (fun D hD => (sp_co_f (hq1 D hD).1 (hq1 D hD).2.1 (hq1 D hD).2.2.1 l1 (by omega) (by omega)).weaken (fun r E h => ⟨h.1, by rw [h.2]; exact hD⟩))) rfl ?_
        rintro B B' ⟨A, hA, rfl⟩ ⟨D, hD, rfl⟩
        exact Rel_tells ((hq1 D hD).2.2.2.2 A hA) _ _
