-- READ: the face
def emE (κ : Nat → Nat) (t : Nat) : Bool := decide (κ t = 16)
theorem emp_C {A C : xM} {κ ζ : Nat → Nat} {t : Nat} (h : RelT A C κ ζ t) : cEmp A t = emE κ t := by
  obtain ⟨h1, -, h3, -⟩ := h
  show sX2_isEmpty A (54 + 3 * t) = decide (κ t = 16)
  unfold sX2_isEmpty
  rw [h3]
  rcases kdI_n _ h1 with e | ⟨q, e⟩
  · rw [e, decide_eq_true rfl]; rfl
  · rw [e, decide_eq_false (by omega), if_neg (kdI_dec _ q).1]
theorem emp_R {A C : xM} {κ ζ : Nat → Nat} {t : Nat} (h : RelT A C κ ζ t) : rEmp C t = emE κ t := by
  obtain ⟨h1, -, -, h4, -⟩ := h
  show decide (mI C 1 t < 0) = decide (κ t = 16)
  rw [h4]
  rcases kdI_n _ h1 with e | ⟨q, e⟩
  · rw [e]; rfl
  · rw [e, decide_eq_false (show ¬ κ t = 16 by omega), decide_eq_false (Int32.not_lt.mpr (kdI_dec _ q).2.1)]
def fiN (κ : Nat → Nat) : Nat := cnt (fun t => !emE κ t) 12 0 0
theorem fiN_12 (κ : Nat → Nat) : fiN κ ≤ 12 := by
  have := cnt_12 (q := fun t => !emE κ t) 12 0 0
  unfold fiN
  omega
theorem fill_C {A C : xM} {κ ζ : Nat → Nat} (h : ∀ t, t < 12 → RelT A C κ ζ t) : sX5_filledSlots A = nI (fiN κ) := by
  unfold sX5_filledSlots fiN
  rw [cnt_congr 12 0 0 (fun t _ ht => by rw [emp_C (h t (by omega))])]
theorem fill_R {A C : xM} {κ ζ : Nat → Nat} (h : ∀ t, t < 12 → RelT A C κ ζ t) : sX6_things C = nI (fiN κ) := by
  unfold sX6_things fiN
  rw [cnt_congr 12 0 0 (fun t _ ht => by rw [emp_R (h t (by omega))])]
theorem iOk_src {R : pR} (h : iOk R) : srcOk R.1 (rK R) (rZ R) (rW R) (rV R) ∧ (∀ i, i < R.1 → 14 ≤ rK R i → okT (rK R i) (rV R i 0)) ∧ (∀ i, i < R.1 → ∀ j, j < rZ R i → okC (fun u => if u < R.1 then rK R u else 16) (rK R i) (rW R i j) (rV R i j)) ∧ (¬ rK R 0 ≤ 13 → R.1 = 1) := by
  rcases h with ⟨h1, h2, h3⟩ | ⟨h1, h2, h3, h4, h5⟩
  · refine ⟨⟨h1.1, fun i hi => ?_⟩, fun i hi z => by have := (h1.2 i hi).1; omega, fun i hi => (h1.2 i hi).2.2, fun z => by omega⟩
    obtain ⟨a1, a2, a3⟩ := h1.2 i hi
    refine ⟨by omega, a2, fun z => by omega, fun j hj => ⟨(a3 j hj).1, fun z => ?_⟩⟩
    obtain ⟨u, u1, u2, u3, -⟩ := (a3 j hj).2.2.2.2.2.2.2.2.2.2.1 z
    exact ⟨u, (rKap_lt (show rKap R u < 16 by omega)).1, u2⟩
  · have z0 : ∀ i, i < R.1 → i = 0 := fun i hi => by omega
    refine ⟨⟨by omega, fun i hi => ?_⟩, fun i hi _ => by rw [z0 i hi]; exact h5, fun i hi j hj => ?_, fun _ => h1⟩
    · rw [z0 i hi, h2]
      exact ⟨h4, by omega, fun _ => rfl, fun j hj => absurd hj (Nat.not_lt_zero j)⟩
    · rw [z0 i hi, h2] at hj
      exact absurd hj (Nat.not_lt_zero j)
theorem homOk_of {E : Nat → Bool} {n : Nat} {s h : Nat → Nat} (hh : isHom E n h) (hs : ∀ i j, i < n → j < n → i ≠ j → s i ≠ s j) (hsh : ∀ i j, i < n → j < n → h i ≠ s j) : homOk n s h := by
  refine ⟨fun i hi => (hh i hi).1, fun i j hi hj hne => ?_, hs, hsh⟩
  rcases Nat.lt_or_gt_of_ne hne with q | q
  · exact (hh j hj).2.2.1 i q
  · exact Ne.symm ((hh i hi).2.2.1 j q)
theorem Rel_mr {MC MR : xM} (hR : Rel MC MR) (n : Nat) : Rel MC (mrM MR n) ∧ ∀ κ ζ t, RelT MC MR κ ζ t → RelT MC (mrM MR n) κ ζ t := Rel_scr hR ⟨rfl, rfl, rfl⟩ (fun a _ _ => mrM_I MR n (by omega)) (fun a _ => rfl) (fun k _ _ => congrFun (mrM_I MR n (by decide)) k)
theorem fc_read : Fc_read Rel := by
  intro MC MR hR
  obtain ⟨L, p, l1, l2, l3, l4, l5, l6, -⟩ := RelB_len hR
  obtain ⟨s1, s2, s3⟩ := tp_S hR l4 l1
  have hti := sp_ti (d := 199) (by decide) hR.1 (s2 p) l2
  have hri := sp_ri (d := 199) (by decide) s1 (hR.2.2.1.k (ftM_I MR L (by decide) (by decide))) l2
  obtain ⟨κ, ζ, hS⟩ := hR.2.2.2.1
  cases e : pItem (tpB MR) L p with
  | error f =>
    rw [e] at hti hri
    have hf := pItem_e e l2
    refine fcX2 (sp_X5_read_f (d := 200) (P := fun A => CF (itM MC 2 p) A ∧ mI A 8 3 = nI f) (by decide) hR.1 l5 hti (fun A h => ⟨(rd_C hR (Or.inl rfl) h.1).1, h.2⟩)) (sp_X6_read_f (d := 200) (P := fun C => RFm (ftM MR L) C ∧ mI C 0 25 = nI f) (by decide) hR.2.1 l4 l1 l6 hri (by omega) (fun C h => ⟨(rd_R hR h.1).1, h.2⟩)) rfl ?_
    rintro B D ⟨A, hA, rfl⟩ ⟨C, hC, rfl⟩
    exact Rel_tells (rd_Rel hR (Or.inl rfl) hA.1 hC.1).1 _ _
  | ok pr =>
    rw [e] at hti hri
    obtain ⟨hi, hq⟩ := pItem_ok s3 e
    obtain ⟨q, R⟩ := pr
    have hq : q ≤ L := hq
    have hi : iOk R := hi
    obtain ⟨i1, i2, i3, i4, -, -⟩ := iOk_0 hi
    obtain ⟨hok, hokT, hokC, hone⟩ := iOk_src hi
    have hc12 := fiN_12 κ
    have hPA : ∀ A, CS (itM MC 2 p) q R A → TC A ∧ mI A 8 2 = nI q := fun A h => ⟨(rd_C hR (Or.inl rfl) h.1).1, h.2.2.1⟩
    have hSA : ∀ A, CS (itM MC 2 p) q R A → ∀ t, t < 12 → RelT A MR κ ζ t := fun A h t ht => (Rel_rdC hR (Or.inl rfl) h.1).2 κ ζ t (hS t ht)
    have hSC : ∀ C, (RFm (ftM MR L) C ∧ mI C 0 25 = -1 ∧ RSr R C ∧ (rK R 0 < 14 → mI C 0 26 = nI R.1)) → ∀ t, t < 12 → RelT MC C κ ζ t := fun C h t ht => (Rel_rdR (Rel_ft hR L).1 h.1).2 κ ζ t ht ((Rel_ft hR L).2 κ ζ t (hS t ht))
    have hPC : ∀ C, (RFm (ftM MR L) C ∧ mI C 0 25 = -1 ∧ RSr R C ∧ (rK R 0 < 14 → mI C 0 26 = nI R.1)) → TR C ∧ mI C 0 25 = -1 ∧ mI C 1 12 = nI (rK R 0) ∧ (rK R 0 ≤ 13 → mI C 0 26 = nI R.1) ∧ sX6_things C = nI (fiN κ) := fun C h => ⟨(rd_R hR h.1).1, h.2.1, (h.2.2.1.2 0 i1).2.2.1, fun z => h.2.2.2 (by omega), fill_R (hSC C h)⟩
    by_cases hf : 12 - fiN κ < R.1
    · refine fcX2 (sp_X5_read_u (d := 200) (P := fun A => CS (itM MC 2 p) q R A) (by decide) hR.1 l5 hti hPA (fun A h => sp_settle_u (by decide) (hPA A h).1 (fill_C (hSA A h)) hc12 h.2.1 i2 hf)) (sp_X6_read_u (d := 200) (P := fun C => RFm (ftM MR L) C ∧ mI C 0 25 = -1 ∧ RSr R C ∧ (rK R 0 < 14 → mI C 0 26 = nI R.1)) (by decide) hR.2.1 l4 l1 l6 hri hPC i4 hone i2 hc12 hf) rfl ?_
      rintro B D ⟨A, hA, rfl⟩ ⟨C, hC, rfl⟩
      exact Rel_tells (rd_Rel hR (Or.inl rfl) hA.1 hC.1).1 _ _
    · obtain ⟨h, hh, -⟩ := hom_ex (emE κ) R.1 (show fiN κ + R.1 ≤ 12 by omega)
      have hm : homOk R.1 (fun i => 12 + i) h := homOk_of hh (fun i j _ _ hne => show 12 + i ≠ 12 + j by omega) (fun i j a b => by have := (hh i a).1; show h i ≠ 12 + j; omega)
      have hE16 : ∀ i, i < R.1 → κ (h i) = 16 := fun i a => of_decide_eq_true (hh i a).2.1
      have hsr : ∀ C, (RFm (ftM MR L) C ∧ mI C 0 25 = -1 ∧ RSr R C ∧ (rK R 0 < 14 → mI C 0 26 = nI R.1)) → srcR (mrM C R.1) (fun i => 12 + i) R.1 (rK R) (rZ R) (rW R) (rV R) := fun C hC i a => by
        obtain ⟨a1, a2, a3, a4, a5, a6⟩ := hC.2.2.1.2 i a
        refine ⟨show 12 + i < 24 by omega, mrM_11 C a, ?_, ?_, a5, fun j hj => ⟨?_, (a6 j hj).2⟩⟩
        · rw [mrM_I C _ (by decide)]; exact a3
        · rw [mrM_I C _ (by decide)]; exact a4
        · rw [mrM_I C _ (by decide)]; exact (a6 j hj).1
      refine fcX2 (sp_X5_read_k (d := 200) (P := fun A => CS (itM MC 2 p) q R A) (Q := fun B => ∃ A, CS (itM MC 2 p) q R A ∧ SeC A h (rK R) (rZ R) (rW R) (rV R) R.1 R.1 B) (f := h 0) (by decide) hR.1 l5 hti hPA (hh 0 i1).1 (fun A hA => (sp_settle_k (by decide) hA.2.2.2.2 hA.2.1 (fun t ht => emp_C (hSA A hA t ht)) hok hh (hPA A hA).1 (fill_C (hSA A hA)) hc12 i1 (by omega)).weaken (fun r B hB => ⟨hB.1, A, hA, hB.2⟩)) ?_) (sp_X6_read_k (d := 200) (P := fun C => RFm (ftM MR L) C ∧ mI C 0 25 = -1 ∧ RSr R C ∧ (rK R 0 < 14 → mI C 0 26 = nI R.1)) (Q := fun D => ∃ C, (RFm (ftM MR L) C ∧ mI C 0 25 = -1 ∧ RSr R C ∧ (rK R 0 < 14 → mI C 0 26 = nI R.1)) ∧ SeR (mrM C R.1) (fun i => 12 + i) h (rK R) (rZ R) (rW R) (rV R) R.1 0 R.1 D) (f := h 0) (by decide) hR.2.1 l4 l1 l6 hri hPC i4 hone i2 hc12 (by omega) (fun C hC => (sp_news (by decide) (hsr C hC) (fun t ht => ?_) hok hh hm i1 ((show sT C (mrM C R.1) from ⟨rfl, rfl, rfl⟩).TR (hPC C hC).1) (hC.1.2.2.2.2.2.2.k (mrM_I C _ (by decide)))).weaken (fun r D hD => ⟨hD.1, C, hC, hD.2⟩)) ?_) rfl ?_
      · rintro B ⟨A, hA, hB⟩
        exact hB.1
      · exact emp_R ((Rel_mr (Rel_rdR (Rel_ft hR L).1 hC.1).1 R.1).2 κ ζ t (hSC C hC t ht))
      · rintro D ⟨C, hC, hD⟩
        exact hD.1
      · rintro B' D' ⟨B, ⟨A, hA, hB⟩, rfl⟩ ⟨D, ⟨C, hC, hD⟩, rfl⟩
        have hAC := rd_Rel hR (Or.inl rfl) hA.1 hC.1
        have hmr := Rel_mr hAC.1 R.1
        refine Rel_tells (Rel_pos (Rel_set hmr.1 (fun t ht => hmr.2 κ ζ t (hAC.2 κ ζ t ht (hS t ht))) hok hm hE16 hokT hokC hB hD) ?_ l1 hq) _ _
        rw [hD.2.2.1 0 (Or.inl rfl), mrM_I C _ (by decide), (rd_R hR hC.1).2.2]
        exact l4
