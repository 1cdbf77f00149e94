-- ROWS FOR THE WRITERS
theorem wrd_c {v : Int64} (h : wrd v = true) : ∃ c, 0 < c ∧ c < 27 ^ 7 ∧ v = lN c := by
  have h1 : 0 < v := by
    by_cases c : 0 < v
    · exact c
    · rw [wrd_f c] at h; cases h
  obtain ⟨e, p, q⟩ := lN_toNat h1
  refine ⟨v.toInt.toNat, p, ?_, e⟩
  have h2 : ¬ (10460353202 : Int64) < v := fun c => by rw [wrd_ge c] at h; cases h
  have h3 : v.toInt ≤ 10460353202 := by
    have := Int64.not_lt.mp h2
    exact Int64.le_iff_toInt_le.mp this
  show v.toInt.toNat < 10460353203
  omega
def slW (MR : xM) (t j : Nat) : Nat := (mI MR 4 (12 * t + j)).toNatClampNeg
def slV (MR : xM) (κ : Nat → Nat) (t j : Nat) : Int64 := if 14 ≤ κ t then mL MR 3 t else mL MR 5 (12 * t + j)
theorem sl_lk {MC MR : xM} {κ ζ : Nat → Nat} (hS : ∀ t, t < 12 → RelT MC MR κ ζ t) : lkOk κ ζ (slW MR) (slV MR κ) := by
  intro t ht hk
  have hr := hS t ht
  refine ⟨hr.2.1, fun j hj => ?_⟩
  obtain ⟨c1, c2, c3, c4⟩ := cells_of hr j hj
  have ev : slV MR κ t j = mL MR 5 (12 * t + j) := if_neg (by omega)
  rw [ev]
  unfold okC at c4
  obtain ⟨o1, -, -, -, -, -, -, -, o8, -, o10, -⟩ := c4
  refine ⟨o1, fun h => ?_, fun h => ?_⟩
  · obtain ⟨u, u1, u2, u3, -⟩ := o10 h
    exact ⟨u, u1, u2, u3⟩
  · obtain ⟨c, d1, d2, d3⟩ := wrd_c (o8 h)
    exact ⟨c, Nat.lt_trans d2 (by decide), d3⟩
theorem WrR_of {MC MR : xM} (hR : Rel MC MR) {κ ζ : Nat → Nat} (hS : ∀ t, t < 12 → RelT MC MR κ ζ t) {w so : Nat} (h : (w = 46 ∧ so = 4) ∨ (w = 48 ∧ so = 6)) : WrR MC w 1 so κ ζ (slW MR) (slV MR κ) := by
  have hT := hR.1
  refine ⟨WrAt_of hT h, by omega, sl_lk hS, fun t ht hk => ⟨54 + 3 * t, ?_, hT.row ht, by omega, Or.inr (by omega), ?_, ?_, fun h14 => ?_, fun j hj => ?_⟩⟩
  · rw [hT.r 1 t (by decide) (fun z => absurd z (by decide))]
    exact if_pos ht
  · rw [(hS t ht).2.2.1, kdI_lt hk]
  · exact (hS t ht).2.2.2.2.1
  · rw [show slV MR κ t 0 = mL MR 3 t from if_pos h14]
    exact ((hS t ht).2.2.2.2.2.2.2.1 h14 hk).1
  · obtain ⟨c1, c2, c3, c4⟩ := cells_of (hS t ht) j hj
    have h13 : ¬ 14 ≤ κ t := fun z => by have := (hS t ht).2.2.2.2.2.2.1 z; omega
    exact ⟨c1, c3.trans (if_neg h13).symm⟩
theorem RfD_of {MC MR : xM} (hR : Rel MC MR) {κ ζ : Nat → Nat} (hS : ∀ t, t < 12 → RelT MC MR κ ζ t) : RfD MR 0 κ ζ (slW MR) (slV MR κ) := by
  refine ⟨hR.2.1, by omega, sl_lk hS, fun t ht hk => ?_⟩
  rw [Nat.zero_add]
  refine ⟨by rw [(hS t ht).2.2.2.1, kdI_lt (by omega)], (hS t ht).2.2.2.2.2.1 (by omega), fun j hj => ?_⟩
  obtain ⟨c1, c2, c3, c4⟩ := cells_of (hS t ht) j hj
  have ev : slV MR κ t j = mL MR 5 (12 * t + j) := if_neg (by omega)
  rw [ev]
  unfold okC at c4
  obtain ⟨o1, o2, -, -, -, -, -, oN, o8, -, o10, -⟩ := c4
  refine ⟨c2, fun h => ?_, fun _ => rfl, oN, fun h => ?_, o2⟩
  · obtain ⟨u, u1, u2, u3, -⟩ := o10 h
    rw [u2, lC_N (by omega), Nat.zero_add]
  · obtain ⟨c, d1, d2, d3⟩ := wrd_c (o8 h)
    rw [d3, lC_N (Nat.lt_trans d2 (by decide))]
    exact ⟨d1, d2⟩
