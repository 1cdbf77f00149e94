-- THE REFERENCE'S laysAll
theorem wA_p {m : Nat} {K Z : Nat → Nat} {W : Nat → Nat → Nat} {V : Nat → Nat → Int64} (g : Nat) {t : Nat} {ms : List Nat} (h : t ∉ ms) (c : K t < 8) : wA m K Z W V (g + 1) t ms = (prB m (K t) (Z t) (V t), ms ++ [t]) := (if_neg h).trans (if_pos c)
theorem wA_n {m : Nat} {K Z : Nat → Nat} {W : Nat → Nat → Nat} {V : Nat → Nat → Int64} (g : Nat) {t : Nat} {ms : List Nat} (h : t ∉ ms) (c : ¬ K t < 8) : wA m K Z W V (g + 1) t ms = ([nI (16 + K t), nI (Z t)] ++ (ceB (wA m K Z W V g) (W t) (V t) (Z t) 0 (ms ++ [t])).1, (ceB (wA m K Z W V g) (W t) (V t) (Z t) 0 (ms ++ [t])).2) := (if_neg h).trans (if_neg c)
theorem sp_la {d : Nat} (hd : 21 ≤ d) {M : xM} {o m t : Nat} {K Z : Nat → Nat} {W : Nat → Nat → Nat} {V : Nat → Nat → Int64} (hD : RfD M o K Z W V) (hm : m < 3) (ht : t < 12) (hk16 : K t < 16) (hk : mI M 1 (o + t) = nI (K t)) (hv : 14 ≤ K t → mL M 3 (o + t) = V t 0) (hw : K t = 15 → ∃ c, 0 < c ∧ c < 27 ^ 7 ∧ V t 0 = lN c) : Sp (fX6_laysAll d) [.ref 0, .int (nI (o + t)), .int (nI m)] M (fun r A => r = some (.int (nI (itR m K Z W V t).1.length)) ∧ ∃ R, LR M o (itR m K Z W V t).2 [] R ∧ A = emM R 0 13 8 (itR m K Z W V t).1) := by
  refine Sp.of pn_X6 (Nat.le_of_ble_eq_true rfl) (fun h => Bool.noConfusion h) ?_
  have hT := hD.1
  have ho := hD.2.1
  have hL := hD.2.2.1
  have hlen := itR_len (m := m) hL ht
  have hTa := (sT_laM M).TR hT
  have hR0 := LR_0 M ho
  refine la_go hT ?_
  rw [← laM_n M]
  have k1 : mI (laM M) 1 (o + t) = nI (K t) := by rw [laM_I M (by decide) (by decide)]; exact hk
  have fin : ∀ R, LR M o (itR m K Z W V t).2 [] R → AW (fX6_laysAll d) 97 [(0, .ref 0), (1, .int (nI (o + t))), (2, .int (nI m))] [] (emM R 0 13 8 (itR m K Z W V t).1) 0 0 (fun r A => r = some (.int (nI (itR m K Z W V t).1.length)) ∧ ∃ R, LR M o (itR m K Z W V t).2 [] R ∧ A = emM R 0 13 8 (itR m K Z W V t).1) := by
    intro R hR
    refine aw_post ?_ (la_end (hR.1.TR hT) hR.2.2.2.2.2.2.2.1 (by omega))
    rintro r A ⟨e1, e2⟩
    exact ⟨e1, R, hR, e2⟩
  by_cases c : K t < 14
  · have ei : itR m K Z W V t = wA m K Z W V 12 t [] := if_pos c
    obtain ⟨v1, v2, v3⟩ := hD.2.2.2 t ht c
    have k2 : mI (laM M) 2 (o + t) = nI (Z t) := by rw [laM_I M (by decide) (by decide)]; exact v2
    have hz := (hL t ht c).1
    by_cases c8 : K t < 8
    · have e : itR m K Z W V t = (prB m (K t) (Z t) (V t), [] ++ [t]) := ei.trans (wA_p 11 List.not_mem_nil c8)
      refine la_r (by omega) hTa (by omega) k1 c (sp_lrP (d := d - 1) (l := []) (by omega) hm (K t) (Z t) (o + t) (V t) hTa c8 (by omega) k1 k2 hz (fun i hi => (v3 i hi).2.2.1 (by rw [(v3 i hi).2.2.2.2.2 c8]; omega)) (fun i hi => by have q := (v3 i hi).2.2.2.1; rw [(v3 i hi).2.2.2.2.2 c8] at q; exact q c8) hR0.2.2.2.2.1 (by decide) (by decide)) ?_
      rw [e] at fin ⊢
      exact fin _ (LR_met List.not_mem_nil hR0)
    · have e : itR m K Z W V t = ([nI (16 + K t), nI (Z t)] ++ (ceB (wA m K Z W V 11) (W t) (V t) (Z t) 0 ([] ++ [t])).1, (ceB (wA m K Z W V 11) (W t) (V t) (Z t) 0 ([] ++ [t])).2) := ei.trans (wA_n 11 List.not_mem_nil c8)
      refine la_r (by omega) hTa (by omega) k1 c (sp_lrO (d := d - 1) (l := []) (by omega) hm hTa (by omega) c (by omega) k1 k2 hR0.2.2.2.2.1 (by decide) hR0.2.2.2.2.2.2.2.1 (by decide) (by decide)) ?_
      rw [e] at fin ⊢
      refine la_all (by omega) hD hm 11 t ht c (Z t) 0 ([] ++ [t]) ([] ++ [nI (16 + K t), nI (Z t)]) [] _ (by omega) (ms_add ms_nil ht List.not_mem_nil) (Nat.le_refl _) (Nat.le_refl _) (LR_psh t (LR_met List.not_mem_nil hR0)) (by show 2 + 10 * Z t ≤ 122 * 1; omega) (fun R' h' => ?_)
      exact fin R' h'
  · have ei : itR m K Z W V t = (elB (if K t = 15 then 8 else 9) (V t 0), []) := if_neg c
    have hv0 := hv (by omega)
    by_cases c5 : K t = 15
    · obtain ⟨y, y1, y2, y3⟩ := hw c5
      rw [if_pos c5, y3] at ei
      rw [ei] at fin ⊢
      rw [c5] at k1
      exact la_w (by omega) hTa (by omega) k1 (hv0.trans y3) y1 y2 (fin _ hR0)
    · rw [if_neg c5] at ei
      rw [ei] at fin ⊢
      rw [show K t = 14 by omega] at k1
      exact la_b (by omega) hTa (by omega) k1 hv0 (fin _ hR0)
