theorem LR_top {M0 : xM} {o : Nat} {ms : List Nat} {S : List (Nat × Nat)} {R : xM} {t j : Nat} (h : LR M0 o ms (S ++ [(t, j)]) R) : mI R 0 19 = nI (S.length + 1) ∧ mI R 12 S.length = nI (o + t) ∧ mI R 13 S.length = nI j := by
  obtain ⟨h1, h2, h3, h4, h5, h6, h7, h8, h9⟩ := h
  have q := h9 S.length (by rw [len1]; omega)
  rw [gD_r] at q
  rw [len1] at h8
  exact ⟨h8, q⟩
theorem LR_I {M0 : xM} {o : Nat} {ms : List Nat} {S : List (Nat × Nat)} {R : xM} (h : LR M0 o ms S R) {x : Nat} (a : x ≠ 0) (b : x ≠ 8) (c : x < 10) : mI R x = mI M0 x := h.2.2.1 x a b (by omega) (by omega) (by omega) (by omega)
theorem wA_old {m : Nat} {K Z : Nat → Nat} {W : Nat → Nat → Nat} {V : Nat → Nat → Int64} (g : Nat) {u : Nat} {ms : List Nat} (h : u ∈ ms) : wA m K Z W V g u ms = ([10, nI (ms.idxOf u)], ms) := by
  cases g
  · exact if_pos h
  · exact if_pos h
def LaP (d : Nat) (M0 : xM) (o m : Nat) (K Z : Nat → Nat) (W : Nat → Nat → Nat) (V : Nat → Nat → Int64) (x1 : Int32) (post : Option Value → xM → Prop) (g : Nat) : Prop :=
  ∀ t, t < 12 → K t < 14 → ∀ (n j : Nat) (ms : List Nat) (l : List Int32) (S : List (Nat × Nat)) (R : xM), j + n = Z t → msOk ms → 12 ≤ ms.length + g → S.length + 1 ≤ ms.length → LR M0 o ms (S ++ [(t, j)]) R → l.length + 10 * n ≤ 122 * ms.length → (∀ R', LR M0 o (ceB (wA m K Z W V g) (W t) (V t) n j ms).2 S R' → AW (fX6_laysAll d) 97 [(0, .ref 0), (1, .int x1), (2, .int (nI m))] [] (emM R' 0 13 8 (l ++ (ceB (wA m K Z W V g) (W t) (V t) n j ms).1)) 0 0 post) → AW (fX6_laysAll d) 97 [(0, .ref 0), (1, .int x1), (2, .int (nI m))] [] (emM R 0 13 8 l) 0 0 post
theorem la_st {d : Nat} (hd : 20 ≤ d) {M0 : xM} {o m : Nat} {K Z : Nat → Nat} {W : Nat → Nat → Nat} {V : Nat → Nat → Int64} {x1 : Int32} {post : Option Value → xM → Prop} (hD : RfD M0 o K Z W V) (hm3 : m < 3) (g : Nat) (hIH : ∀ g', g = g' + 1 → LaP d M0 o m K Z W V x1 post g') : LaP d M0 o m K Z W V x1 post g := by
  obtain ⟨hT0, ho, hL, hrows⟩ := hD
  intro t ht hkt n
  obtain ⟨f1, f2, f3⟩ := hrows t ht hkt
  have hz12 := (hL t ht hkt).1
  induction n with
  | zero =>
    intro j ms l S R hj hm hg hS hR hl hk
    have hml := ms_len hm
    obtain ⟨p1, p2, p3⟩ := LR_top hR
    have hk2 := hk _ (LR_pop hR)
    rw [show ceB (wA m K Z W V g) (W t) (V t) 0 j ms = ([], ms) from rfl] at hk2
    dsimp only at hk2
    rw [List.append_nil] at hk2
    exact la_pop (p := S.length) (T := o + t) (j := j) (z := Z t) (hR.1.TR hT0) p1 (by omega) p2 p3 (by omega) (by rw [LR_I hR (by decide) (by decide) (by decide)]; exact f2) (by omega) hz12 (by omega) hk2
  | succ n ih =>
    intro j ms l S R hj hm hg hS hR hl hk
    have hml := ms_len hm
    obtain ⟨p1, p2, p3⟩ := LR_top hR
    have hR1 := LR_nxt (j + 1) hR
    have hTR := hR.1.TR hT0
    have hTR1 := hR1.1.TR hT0
    have hlz := (hL t ht hkt).2 j (by omega)
    have hcell := f3 j (by omega)
    have hx : mI R 4 (12 * (o + t) + j) = nI (W t j) := by rw [LR_I hR (by decide) (by decide) (by decide)]; exact hcell.1
    have hz : mI R 2 (o + t) = nI (Z t) := by rw [LR_I hR (by decide) (by decide) (by decide)]; exact f2
    have hlen : l.length + 10 ≤ 1500 := by omega
    have go : ∀ {y : Int64} {M2 : xM}, mL M0 5 (12 * (o + t) + j) = y → Sp (fX6_laysCell (d - 1)) [.ref 0, .int (nI (W t j)), .long y, .int (nI m)] (emM (stI R 13 S.length (nI (j + 1))) 0 13 8 l) (dt none M2) → AW (fX6_laysAll d) 97 [(0, .ref 0), (1, .int x1), (2, .int (nI m))] [] M2 0 0 post → AW (fX6_laysAll d) 97 [(0, .ref 0), (1, .int x1), (2, .int (nI m))] [] (emM R 0 13 8 l) 0 0 post := by
      intro y M2 hy hC k
      exact la_step (p := S.length) (T := o + t) (j := j) (z := Z t) (by omega) hTR p1 (by omega) p2 p3 (by omega) hz (by omega) hz12 (by omega) hx (by rw [hR.2.1]; exact hy) hC k
    by_cases cw : W t j = 10
    · obtain ⟨u, u1, u2, u3⟩ := hlz.2.1 cw
      have hy := hcell.2.1 cw
      clear hcell hlz
      rw [u2, lC_N (by omega)] at hy
      have e : ceB (wA m K Z W V g) (W t) (V t) (n + 1) j ms = ((wA m K Z W V g u ms).1 ++ (ceB (wA m K Z W V g) (W t) (V t) n (j + 1) (wA m K Z W V g u ms).2).1, (ceB (wA m K Z W V g) (W t) (V t) n (j + 1) (wA m K Z W V g u ms).2).2) := by
        show (if W t j = 10 then _ else _) = _
        rw [if_pos cw, u2, lC_N (by omega)]
      rw [e] at hk
      dsimp only at hk
      obtain ⟨i1, i2, i3, -⟩ := wA_inv (m := m) hL g u ms u1 u3 hm
      have cont : ∀ R2, LR M0 o (wA m K Z W V g u ms).2 (S ++ [(t, j + 1)]) R2 → AW (fX6_laysAll d) 97 [(0, .ref 0), (1, .int x1), (2, .int (nI m))] [] (emM R2 0 13 8 (l ++ (wA m K Z W V g u ms).1)) 0 0 post := fun R2 h2 => ih (j + 1) _ _ S R2 (by omega) i1 (by omega) (by omega) h2 (by rw [List.length_append]; omega) (fun R' h' => by rw [List.append_assoc]; exact hk R' h')
      have hmet := hR1.2.2.2.2.2.1 u u1
      rw [cw] at go
      by_cases hu : u ∈ ms
      · rw [wA_old g hu] at cont
        rw [if_pos hu] at hmet
        have hix := List.idxOf_lt_length_of_mem hu
        exact go hy (sp_lcM (d := d - 1) (by have := hd; omega) (o + u) (ms.idxOf u) (by omega) (by omega) hmet hTR1 (nI m) hlen) (cont _ hR1)
      · rw [if_neg hu] at hmet
        have hlt := ms_lt hm u1 hu
        obtain ⟨g', rfl⟩ : ∃ g', g = g' + 1 := ⟨g - 1, by omega⟩
        have hn := hR1.2.2.2.2.1
        obtain ⟨v1, v2, v3⟩ := hrows u u1 u3
        have w1 : mI (stI R 13 S.length (nI (j + 1))) 1 (o + u) = nI (K u) := by rw [LR_I hR1 (by decide) (by decide) (by decide)]; exact v1
        have w2 : mI (stI R 13 S.length (nI (j + 1))) 2 (o + u) = nI (Z u) := by rw [LR_I hR1 (by decide) (by decide) (by decide)]; exact v2
        by_cases c8 : K u < 8
        · rw [show wA m K Z W V (g' + 1) u ms = (prB m (K u) (Z u) (V u), ms ++ [u]) from (if_neg hu).trans (if_pos c8)] at cont
          exact go hy (sp_lcR (d := d - 1) (by have := hd; omega) (o + u) (by omega) hTR1 (nI m) hmet (sp_lrP (d := d - 1 - 1) (by have := hd; omega) hm3 (K u) (Z u) (o + u) (V u) hTR1 c8 (by omega) w1 w2 (hL u u1 u3).1 (fun i hi => by rw [hR1.2.1]; exact (v3 i hi).2.2.1 (by rw [(v3 i hi).2.2.2.2.2 c8]; omega)) (fun i hi => by have q := (v3 i hi).2.2.2.1; rw [(v3 i hi).2.2.2.2.2 c8] at q; exact q c8) hn (by omega) (by omega))) (cont _ (LR_met hu hR1))
        · rw [show wA m K Z W V (g' + 1) u ms = ([nI (16 + K u), nI (Z u)] ++ (ceB (wA m K Z W V g') (W u) (V u) (Z u) 0 (ms ++ [u])).1, (ceB (wA m K Z W V g') (W u) (V u) (Z u) 0 (ms ++ [u])).2) from (if_neg hu).trans (if_neg c8)] at cont
          have hp := hR1.2.2.2.2.2.2.2.1
          rw [len1] at hp
          have hR2 := LR_psh u (LR_met hu hR1)
          rw [len1] at hR2
          have hzu := (hL u u1 u3).1
          refine go hy (sp_lcR (d := d - 1) (by have := hd; omega) (o + u) (by omega) hTR1 (nI m) hmet (sp_lrO (d := d - 1 - 1) (by have := hd; omega) hm3 hTR1 (by omega) u3 (by omega) w1 w2 hn (by omega) hp (by omega) (by omega))) ?_
          exact hIH g' rfl u u1 u3 (Z u) 0 (ms ++ [u]) _ (S ++ [(t, j + 1)]) _ (by omega) (ms_add hm u1 hu) (by rw [len1]; omega) (by rw [len1, len1]; omega) hR2 (by rw [len1, List.length_append, List.length_cons, List.length_cons, List.length_nil]; omega) (fun R' h' => by rw [List.append_assoc]; exact cont R' h')
    · have hy := hcell.2.2.1 cw
      have e : ceB (wA m K Z W V g) (W t) (V t) (n + 1) j ms = (elB (W t j) (V t j) ++ (ceB (wA m K Z W V g) (W t) (V t) n (j + 1) ms).1, (ceB (wA m K Z W V g) (W t) (V t) n (j + 1) ms).2) := if_neg cw
      rw [e] at hk
      dsimp only at hk
      have hel := elB_len (W t j) (V t j)
      have cont : AW (fX6_laysAll d) 97 [(0, .ref 0), (1, .int x1), (2, .int (nI m))] [] (emM (stI R 13 S.length (nI (j + 1))) 0 13 8 (l ++ elB (W t j) (V t j))) 0 0 post := ih (j + 1) ms _ S _ (by clear hcell hlz; omega) hm hg hS hR1 (by clear hcell hlz; rw [List.length_append]; omega) (fun R' h' => by rw [List.append_assoc]; exact hk R' h')
      have hcs : W t j = 8 ∨ W t j = 9 ∨ W t j = 11 ∨ W t j < 8 := by have q := hlz.1; clear hcell hlz; omega
      rcases hcs with c | c | c | c
      · obtain ⟨y, y1, y2⟩ := hlz.2.2 c
        have hw := hcell.2.2.2.2.1 c
        rw [y2, lC_N (by clear hcell hlz; omega)] at hw
        rw [c, y2] at cont
        rw [y2] at hy
        rw [c] at go
        exact go hy (sp_lc8 (d := d - 1) (by clear hcell hlz; omega) y hw.1 hw.2 hTR1 (nI m) hlen) cont
      · rw [c] at cont go
        exact go hy (sp_lc9 (d := d - 1) (by clear hcell hlz; omega) (V t j) hTR1 (nI m) hlen) cont
      · rw [c] at cont go
        exact go hy (sp_lc11 (d := d - 1) (by clear hcell hlz; omega) (V t j) hTR1 (nI m) hlen) cont
      · exact go hy (sp_lcN (d := d - 1) (by clear hcell hlz; omega) (W t j) (V t j) c (hcell.2.2.2.1 c) hTR1 (nI m) hlen) cont
theorem la_all {d : Nat} (hd : 20 ≤ d) {M0 : xM} {o m : Nat} {K Z : Nat → Nat} {W : Nat → Nat → Nat} {V : Nat → Nat → Int64} {x1 : Int32} {post : Option Value → xM → Prop} (hD : RfD M0 o K Z W V) (hm3 : m < 3) : ∀ g, LaP d M0 o m K Z W V x1 post g := by
  intro g
  induction g with
  | zero => exact la_st hd hD hm3 0 (fun g' h => absurd h (by omega))
  | succ g ih => exact la_st hd hD hm3 (g + 1) (fun g' h => by obtain rfl : g = g' := by omega
                                                               exact ih)
