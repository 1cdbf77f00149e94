-- WHAT IS WRITTEN IS READ BACK: floats, numbers, elements
theorem sgn_x (s : Bool) {n : Nat} (h0 : 0 < n) (hn : n < 2 ^ 63) : ∃ x, x < 2 ^ 64 ∧ Int64.ofInt (FP.Core.signed s n) = lN x ∧ (lN x).toInt = if s = true then -(n : Int) else (n : Int) := by
  cases s with
  | false =>
    refine ⟨n, by omega, sgn_f n, ?_⟩
    rw [if_neg (by decide), pf_lI hn]
  | true =>
    refine ⟨2 ^ 64 - n, by omega, (sgn_t n).trans (neg_N h0 (by omega)), ?_⟩
    rw [if_pos rfl, lN_ti (by omega), if_neg (by omega)]
    omega
theorem odd_1 {n : Nat} (ho : n % 2 = 1) (h : n * 2 ^ (52 - n.log2) = 2 ^ 52) (hl : n.log2 ≤ 52) : n = 1 := by
  have e : 2 ^ 52 = 2 ^ n.log2 * 2 ^ (52 - n.log2) := by rw [← Nat.pow_add, show n.log2 + (52 - n.log2) = 52 by omega]
  rw [e] at h
  have hn : n = 2 ^ n.log2 := Nat.eq_of_mul_eq_mul_right (Nat.pow_pos (by decide)) h
  generalize n.log2 = j at hn
  cases j with
  | zero => exact hn
  | succ j => rw [Nat.pow_succ] at hn; omega
theorem rt_flt {B : Nat → Nat} {L k p : Nat} {v : Int64} (hB : ∀ i, i < L → B i < 256) (hk : k = 6 ∨ k = 7) (ho : okF k v) (h : atB B L p (sX0_powerPart (nI k) v :: byB (sX0_oddPart (nI k) v) (wdK k))) : numV B k p = some v := by
  obtain ⟨h1, h2, h3⟩ := atB.hd h
  have hp256 := hB p h1
  have hwd : wdK k = (if k = 6 then 3 else 7) + 1 := by rcases hk with rfl | rfl <;> decide
  unfold numV
  rw [if_neg (by omega)]
  obtain ⟨u, hu, hs, rfl⟩ := ho
  rcases hu with rfl | ⟨s, c, r, hD, rfl⟩
  · rw [fb_0] at h2 h3 ⊢
    have e1 : sX0_powerPart (nI k) 0 = nI 0 := by unfold sX0_powerPart; rw [if_pos rfl]; rfl
    have e2 : sX0_oddPart (nI k) 0 = lN 0 := by unfold sX0_oddPart; rw [if_pos rfl]; rfl
    rw [e1] at h2
    rw [e2, hwd] at h3
    have ep := atB_n hB h1 (by decide) h2
    have q : sgB B (p + 1) (wdK k) = 0 := by
      rw [hwd]
      refine rt_sg (x := 0) hB (by decide) (by split <;> decide) ?_ h3
      rw [pf_lI (by decide)]
      have : 0 < 256 ^ (if k = 6 then 3 else 7) := Nat.pow_pos (by decide)
      generalize 256 ^ (if k = 6 then 3 else 7) = y at this
      omega
    rw [q, ep, isS_0 (by decide), if_pos (by decide), sc_0]
  · obtain ⟨hE, -⟩ := okE_of hk hD
    obtain ⟨b, t, p1, p2, p3, p4, p5, p6, p7⟩ := parts_of hk hD
    have hr := rmK_le hk
    have hnr := okD_nrm0 hD
    rw [fb_nd s hD, odd_of hk s hE p2 p1, hwd] at h3
    rw [fb_nd s hD, pow_of hk s hE p2 p1 p6] at h2
    have hlog : 2 * b + 1 < 2 ^ (rmK k + 1) := by
      have := Nat.lt_log2_self (n := 2 * b + 1)
      rw [p4] at this
      exact Nat.lt_of_lt_of_le this (Nat.pow_le_pow_right (by decide) (by omega))
    have hsm := hs s c r (hnr.val s)
    have hd4 := hD.2.2.2.1
    generalize he : (r + 52 + bsK k).toNat + 3 + t - bsK k - rmK k = e at h2 p7
    have he256 : e < 256 := by omega
    have ep := atB_n hB h1 (by omega) h2
    have hsc : scB k (2 * b + 1) e = true := by
      refine decide_eq_true ⟨by omega, ?_, hlog, ?_⟩
      · rcases hsm with z | z | ⟨z, -⟩
        · have := hnr.1; rw [z] at this; exact absurd this (by decide)
        · omega
        · omega
      · rcases hsm with z | z | ⟨z1, z2⟩
        · have := hnr.1; rw [z] at this; exact absurd this (by decide)
        · exact Or.inr (by omega)
        · refine Or.inl (odd_1 (by omega) ?_ (by omega))
          rw [p4, p5, z2]
    obtain ⟨x, hx, ex, et⟩ := sgn_x s (n := 2 * b + 1) (by omega) (by omega)
    have q : sgB B (p + 1) (wdK k) = Int64.ofInt (FP.Core.signed s (2 * b + 1)) := by
      rw [ex, hwd]
      rw [ex] at h3
      refine rt_sg hB hx (by split <;> decide) ?_ h3
      rw [et]
      have hb2 : 2 * b + 1 < 128 * 256 ^ (if k = 6 then 3 else 7) := by
        rcases hk with rfl | rfl
        · exact Nat.lt_of_lt_of_le hlog (by decide)
        · exact Nat.lt_of_lt_of_le p3 (by decide)
      generalize 128 * 256 ^ (if k = 6 then 3 else 7) = y at hb2
      split <;> omega
    rw [q, ep, isS_eq hk s (by omega) (by omega) he256, hsc, if_pos rfl, sc_fb hk s hsc, p4, p5]
    rw [show ((rmK k - t : Nat) : Int) - 55 + (e : Int) = r by omega]
theorem rt_num {B : Nat → Nat} {L k p : Nat} {v : Int64} (hB : ∀ i, i < L → B i < 256) (hk : k < 8) (ho : okN k v) (h : atB B L p (nuC k v)) : pNum B L k p = .ok (v, p + (nuC k v).length) := by
  have hl := h.1
  have e : numV B k p = some v := by
    unfold nuC at h
    by_cases c : k < 6
    · rw [if_pos c] at h; exact rt_int hB c ho h
    · rw [if_neg c] at h; exact rt_flt hB (by omega) (ho.2 (by omega)) h
  rw [nuC_w] at hl ⊢
  unfold pNum
  rw [if_pos hl, e]
theorem rt_el {B : Nat → Nat} {L : Nat} {R : pR} {κ : Nat → Nat} {k w p : Nat} {v : Int64} (hB : ∀ i, i < L → B i < 256) (hc : okC κ k w v) (h10 : ¬ w = 10) (h : atB B L p (elB w v)) : p < L ∧ B p = w ∧ pElem B L R k w (p + 1) = .ok (v, p + (elB w v).length) := by
  obtain ⟨o1, o2, o3, o4, o5, o6, o7, o8, o9, o10, o11, o12⟩ := hc
  obtain ⟨h1, h2, h3⟩ := atB.hd h
  have e := atB_n hB h1 (by omega) h2
  refine ⟨h1, e, ?_⟩
  have el : (elB w v).length = (if w = 8 then woB (lC v) else if w = 9 then [v.toInt32] else if w < 8 then nuC w v else []).length + 1 := rfl
  rw [el]
  unfold pElem
  by_cases c8 : w = 8
  · rw [if_pos c8] at h3 ⊢
    rw [rt_word hB (o9 c8) h3, if_pos c8]
    exact congrArg Except.ok (congrArg (Prod.mk v) (by omega))
  · rw [if_neg c8] at h3 ⊢
    by_cases c9 : w = 9
    · rw [if_pos c9] at h3 ⊢
      obtain ⟨b, b1, rfl⟩ := o10 c9
      obtain ⟨g1, g2, -⟩ := atB.hd h3
      rw [(by decide : ∀ b, b < 6 → (lN b).toInt32 = nI b) b b1] at g2
      have e2 := atB_n hB g1 (by omega) g2
      unfold pBead
      have h3b : (if k = 11 then 3 else 0) ≤ B (p + 1) := by
        rw [e2]
        split
        · rename_i q
          rcases o6 q with ⟨-, z⟩ | z
          · exact (by decide : ∀ b, b < 6 → (3 : Int64) ≤ lN b → 3 ≤ b) b b1 z
          · omega
        · omega
      rw [if_pos ⟨g1, h3b, by omega⟩, e2, if_neg c8, if_pos c9]
      rfl
    · rw [if_neg c9] at h3 ⊢
      rw [if_neg h10]
      by_cases c11 : w = 11
      · rw [if_pos c11, o12 c11, if_neg c8, if_neg c9, if_neg (by omega)]
        rfl
      · have w8 : w < 8 := by clear o10 o11; omega
        rw [if_neg c11]
        rw [if_pos w8] at h3
        rw [rt_num hB w8 (o8 w8) h3, if_neg c8, if_neg c9, if_pos w8]
        exact congrArg Except.ok (congrArg (Prod.mk v) (by omega))
-- rows of numbers
theorem rt_flat {B : Nat → Nat} {L k t : Nat} {V : Nat → Int64} (hB : ∀ i, i < L → B i < 256) (hk : k < 8) : ∀ {n j p : Nat} {R : pR}, (∀ i, j ≤ i → i < j + n → okN k (V i)) → atB B L p (flB k V n j) → ∃ R', pFlat B L k t n j p R = .ok (p + (flB k V n j).length, R') ∧ R'.1 = R.1 ∧ rK R' = rK R ∧ rZ R' = rZ R ∧ (∀ i, j ≤ i → i < j + n → rW R' t i = k ∧ rV R' t i = V i) ∧ (∀ i, i < j → rW R' t i = rW R t i ∧ rV R' t i = rV R t i) ∧ (∀ s, s ≠ t → rW R' s = rW R s ∧ rV R' s = rV R s)
  | 0, j, p, R, _, _ => ⟨R, rfl, rfl, rfl, rfl, fun i h1 h2 => by omega, fun _ _ => ⟨rfl, rfl⟩, fun _ _ => ⟨rfl, rfl⟩⟩
  | n + 1, j, p, R, ho, h => by
    obtain ⟨h1, h2⟩ := atB.app (l1 := nuC k (V j)) (l2 := flB k V n (j + 1)) h
    have e := rt_num hB hk (ho j (Nat.le_refl _) (by omega)) h1
    obtain ⟨R', g1, g2, g3, g4, g5, g6, g7⟩ := rt_flat (t := t) (R := rSet R t j k (V j)) hB hk (fun i a b => ho i (by omega) (by omega)) h2
    have el : (flB k V (n + 1) j).length = (nuC k (V j)).length + (flB k V n (j + 1)).length := by
      show (nuC k (V j) ++ flB k V n (j + 1)).length = _
      rw [List.length_append]
    refine ⟨R', ?_, g2, g3, g4, fun i a b => ?_, fun i a => ?_, fun s hs => ?_⟩
    · unfold pFlat
      rw [e, el]
      show pFlat B L k t n (j + 1) (p + (nuC k (V j)).length) (rSet R t j k (V j)) = _
      rw [g1, Nat.add_assoc]
    · by_cases c : i = j
      · rw [c, (g6 j (by omega)).1, (g6 j (by omega)).2]
        exact ⟨xup_s _ _ _ _, xup_s _ _ _ _⟩
      · exact g5 i (by omega) (by omega)
    · rw [(g6 i (by omega)).1, (g6 i (by omega)).2]
      exact ⟨xup_k _ _ _ (by omega) _, xup_k _ _ _ (by omega) _⟩
    · rw [(g7 s hs).1, (g7 s hs).2]
      exact ⟨xup_n _ _ _ hs, xup_n _ _ _ hs⟩
