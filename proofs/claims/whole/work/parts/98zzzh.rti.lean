-- WHAT IS WRITTEN IS READ BACK: items
section
variable {K Z : Nat → Nat} {W : Nat → Nat → Nat} {V : Nat → Nat → Int64}
theorem prB_0 {k z : Nat} (V : Nat → Int64) : prB 0 k z V = nI (16 + k) :: nI z :: flB k V z 0 := by
  have e : foP 0 k = 0 := if_neg (by omega)
  unfold prB
  rw [e, if_neg (by decide), if_neg (by decide)]
  rfl
theorem rNew_o (R : pR) (k z : Nat) {i : Nat} (h : i ≠ R.1) : rW (rNew R k z) i = rW R i ∧ rV (rNew R k z) i = rV R i := by
  refine ⟨?_, ?_⟩
  · show xnw R.2.2.2.1 R.1 _ i = _; unfold xnw; rw [if_neg h]; rfl
  · show xnw R.2.2.2.2 R.1 _ i = _; unfold xnw; rw [if_neg h]; rfl
theorem rt_arr {B : Nat → Nat} {L : Nat} {mF : List Nat} (hB : ∀ i, i < L → B i < 256) (hL : lkOk K Z W V) (hC : ∀ t, t < 12 → K t < 14 → ∀ j, j < Z t → okC K (K t) (W t j) (V t j)) : ∀ g, RT B L K Z W V mF g
  | 0 => fun t ms p R g' ht hk hn hms hI hg hg' hpx hat => by have := ms_lt hms ht hn; omega
  | g + 1 => by
    intro t ms p R g' ht hk hn hms hI hg hg' hpx hat
    have hlt := ms_lt hms ht hn
    obtain ⟨g'', rfl⟩ : ∃ x, g' = x + 1 := ⟨g' - 1, by omega⟩
    obtain ⟨hz, hlc⟩ := hL t ht hk
    obtain ⟨t1, -, -, t4, t5⟩ := tga_t (K t) hk
    have hIn := hI.new t
    have hel : (ms ++ [t]).getD ms.length 0 = t := gD_r ms t 0
    by_cases c8 : K t < 8
    · rw [wA_p g hn c8] at hpx hat ⊢
      dsimp only at hpx hat ⊢
      rw [prB_0] at hat ⊢
      obtain ⟨b1, b2, b3⟩ := atB.hd hat
      obtain ⟨b4, b5, b6⟩ := atB.hd b3
      have e1 := atB_n hB b1 (by omega) b2
      have e2 := atB_n hB b4 (by omega) b5
      have hw : ∀ i, i < Z t → W t i = K t ∧ okN (K t) (V t i) := fun i hi => by
        obtain ⟨o1, o2, -, -, -, -, -, o8, -⟩ := hC t ht hk i hi
        have := o2 c8
        rw [this] at o8
        exact ⟨this, o8 c8⟩
      obtain ⟨R', q1, q2, q3, q4, q5, q6, q7⟩ := rt_flat (t := R.1) (R := rNew R (K t) (Z t)) hB c8 (fun i _ hi => (hw i (by omega)).2) b6
      refine ⟨b1, e1, R', ?_, ⟨by rw [q2]; exact hIn.1, fun i hi => by rw [q3, q4]; exact hIn.2 i hi⟩, fun i x1 x2 => ?_, fun i x1 => ?_, List.prefix_refl _⟩
      · unfold pArr
        rw [e1, e2, if_pos (by rw [hI.1]; exact hlt), if_pos ⟨b4, hz⟩, t4, if_neg (by decide), if_neg (by decide), t5, if_pos c8]
        rw [show p + 1 + 1 = p + 1 + 1 from rfl, q1]
        refine congrArg Except.ok (congrArg (fun x => (x, R')) ?_)
        rw [List.length_cons, List.length_cons]
        omega
      · rw [List.length_append, List.length_singleton] at x2
        have ei : i = ms.length := by omega
        rw [ei, hel, ← hI.1]
        intro j hj
        obtain ⟨w1, w2⟩ := hw j hj
        rw [(q5 j (Nat.zero_le _) (by omega)).1, (q5 j (Nat.zero_le _) (by omega)).2, w1]
        refine ⟨rfl, ?_⟩
        unfold vI
        rw [if_neg (by omega)]
      · rw [(q7 i (by rw [hI.1]; omega)).1, (q7 i (by rw [hI.1]; omega)).2]
        exact rNew_o R _ _ (by rw [hI.1]; omega)
    · rw [wA_n g hn c8] at hpx hat ⊢
      dsimp only at hpx hat ⊢
      obtain ⟨b1, b2, b3⟩ := atB.hd (x := nI (16 + K t)) (l := nI (Z t) :: (ceB (wA 0 K Z W V g) (W t) (V t) (Z t) 0 (ms ++ [t])).1) hat
      obtain ⟨b4, b5, b6⟩ := atB.hd b3
      have e1 := atB_n hB b1 (by omega) b2
      have e2 := atB_n hB b4 (by omega) b5
      have el : (ms ++ [t]).length = ms.length + 1 := by rw [List.length_append, List.length_singleton]
      obtain ⟨R', q1, q2, q3, q4, q5, q6⟩ := rt_cells (g' := g'') (i0 := ms.length) hB hL hC (rt_arr hB hL hC g) ht hk (by omega) (Z t) 0 (p + 1 + 1) (rNew R (K t) (Z t)) (ms ++ [t]) (by omega) (by omega) (ms_add hms ht hn) hIn (by omega) (by omega) hpx b6
      have hpx2 := ceB_px (K := K) (Z := Z) (W := W) (V := V) 0 g t (Z t) 0 (ms ++ [t])
      refine ⟨b1, e1, R', ?_, q2, fun i x1 x2 => ?_, fun i x1 => ?_, hpx2⟩
      · unfold pArr
        rw [e1, e2, if_pos (by rw [hI.1]; exact hlt), if_pos ⟨b4, hz⟩, t4, if_neg (by decide), if_neg (by decide), t5, if_neg c8, hI.1, q1]
        refine congrArg Except.ok (congrArg (fun x => (x, R')) ?_)
        rw [List.length_append, List.length_cons, List.length_cons, List.length_nil]
        omega
      · by_cases ci : i = ms.length
        · rw [gDp hpx2 (show i < (ms ++ [t]).length by omega), ci, hel]
          intro j hj
          exact q6 j (Nat.zero_le _) hj
        · exact q3 i (by omega) x2
      · rw [(q4 i (by omega) (by omega)).1, (q4 i (by omega) (by omega)).2]
        exact rNew_o R _ _ (by rw [hI.1]; omega)
theorem rt_item {B : Nat → Nat} {L t : Nat} (hB : ∀ i, i < L → B i < 256) (hL : lkOk K Z W V) (hC : ∀ t, t < 12 → K t < 14 → ∀ j, j < Z t → okC K (K t) (W t j) (V t j)) (ht : t < 12) (hk : K t < 14) (hat : atB B L 0 (wA 0 K Z W V 12 t []).1) : ∃ R, pItem B L 0 = .ok ((wA 0 K Z W V 12 t []).1.length, R) ∧ Img K Z (wA 0 K Z W V 12 t []).2 R ∧ ∀ i, i < (wA 0 K Z W V 12 t []).2.length → cmR Z W V (wA 0 K Z W V 12 t []).2 R i ((wA 0 K Z W V 12 t []).2.getD i 0) := by
  obtain ⟨b1, e1, R, q1, q2, q3, -, -⟩ := rt_arr (mF := (wA 0 K Z W V 12 t []).2) hB hL hC 12 t [] 0 rZero 12 ht hk List.not_mem_nil ms_nil ⟨rfl, fun i hi => absurd hi (Nat.not_lt_zero i)⟩ (by decide) (by decide) (List.prefix_refl _) hat
  refine ⟨R, ?_, q2, fun i hi => q3 i (Nat.zero_le _) hi⟩
  unfold pItem
  rw [e1] at q1
  rw [if_pos b1, e1, if_pos (tga_t (K t) hk).1, q1, Nat.zero_add]
end
theorem rt_thing {B : Nat → Nat} {L k : Nat} {v : Int64} (hB : ∀ i, i < L → B i < 256) (hk : k = 14 ∨ k = 15) (hv : okT k v) (hat : atB B L 0 (elB (if k = 15 then 8 else 9) v)) : pItem B L 0 = .ok ((elB (if k = 15 then 8 else 9) v).length, rThg k v) := by
  rcases hk with rfl | rfl
  · rw [if_neg (by decide)] at hat ⊢
    obtain ⟨b, b1, rfl⟩ := hv.1 rfl
    obtain ⟨h1, h2, h3⟩ := atB.hd (x := nI 9) (l := [(lN b).toInt32]) hat
    obtain ⟨g1, g2, -⟩ := atB.hd h3
    rw [(by decide : ∀ b, b < 6 → (lN b).toInt32 = nI b) b b1] at g2
    have e1 := atB_n hB h1 (by decide) h2
    have e2 := atB_n hB g1 (by omega) g2
    unfold pItem
    rw [if_pos h1, e1, if_neg (by decide), if_neg (by decide), if_pos rfl]
    unfold pBead
    rw [if_pos ⟨g1, Nat.zero_le _, by omega⟩, e2]
    rfl
  · rw [if_pos rfl] at hat ⊢
    obtain ⟨h1, h2, h3⟩ := atB.hd (x := nI 8) (l := woB (lC v)) hat
    have e1 := atB_n hB h1 (by decide) h2
    unfold pItem
    rw [if_pos h1, e1, if_neg (by decide), if_pos rfl, rt_word hB (hv.2 rfl) h3]
    refine congrArg Except.ok (congrArg (fun x => (x, rThg 15 v)) ?_)
    show 0 + 1 + (woB (lC v)).length = (woB (lC v)).length + 1
    omega
