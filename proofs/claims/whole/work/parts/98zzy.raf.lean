-- READAS: the face
theorem any_no {q : Nat → Bool} : ∀ n i, (∀ j, i ≤ j → j < i + n → q j = false) → any q n i = false
  | 0, _, _ => rfl
  | n + 1, i, h => by rw [any_f n (h i (Nat.le_refl _) (by omega))]; exact any_no n (i + 1) (fun j h1 h2 => h j (by omega) (by omega))
theorem any_ex {q : Nat → Bool} : ∀ n i m, i ≤ m → m < i + n → q m = true → any q n i = true
  | 0, i, m, h1, h2, _ => by omega
  | n + 1, i, m, h1, h2, h3 => by
    cases e : q i with
    | true => exact any_t n e
    | false =>
      rw [any_f n e]
      have : i ≠ m := fun z => by rw [z, h3] at e; cases e
      exact any_ex n (i + 1) m (by omega) (by omega) h3
theorem tkB_x {k w : Nat} {v : Int64} (h : ¬ w = 10) (x y : Bool) : tkB x k w v = tkB y k w v := by
  unfold tkB
  rw [decide_eq_false h]
  rfl
theorem xup_ck {α : Type} (f : Nat → Nat → α) (a : Nat) {k j : Nat} (h : k ≠ j) (v w : α) : xup (xup f a k v) a j w = xup (xup f a j w) a k v := by
  funext x y
  unfold xup
  by_cases c : x = a
  · rw [if_pos c, if_pos c, if_pos c, if_pos c]
    by_cases c1 : y = j
    · rw [if_pos c1, if_pos c1, if_neg (by omega)]
    · rw [if_neg c1, if_neg c1]
  · rw [if_neg c, if_neg c, if_neg c, if_neg c]
theorem stI_ck (M : xM) (a : Nat) {k j : Nat} (h : k ≠ j) (v w : Int32) : stI (stI M a k v) a j w = stI (stI M a j w) a k v := Prod.ext (xup_ck M.1 a h v w) rfl
theorem tkM_s7 (M : xM) (x : Int32) (y : Int64) (v : Int32) : stI (tkM M x y) 0 7 v = tkM (stI M 0 7 v) x y := Prod.ext (xup_ck M.1 0 (by decide) x v) rfl
theorem cvX_s (M : xM) (f b z : Nat) (W : Nat → Nat) (V : Nat → Int64) (i k : Nat) (v : Int32) : cvX (stI M 0 k v) f b z W V i = stI (cvX M f b z W V i) 0 k v := by
  unfold cvX beaM
  refine Prod.ext ?_ rfl
  show xfl (xfl (xup (xup (xup M.1 0 k v) (54 + 3 * f) 0 (nI b)) (54 + 3 * f) 1 (nI z)) (54 + 3 * f + 1) 0 z (fun _ => if sX0_isKind (nI b) = true then nI b else 11)) (54 + 3 * f + 1) 0 i (fun k => nI (hwt b (W k))) = xup (xfl (xfl (xup (xup M.1 (54 + 3 * f) 0 (nI b)) (54 + 3 * f) 1 (nI z)) (54 + 3 * f + 1) 0 z (fun _ => if sX0_isKind (nI b) = true then nI b else 11)) (54 + 3 * f + 1) 0 i (fun k => nI (hwt b (W k)))) 0 k v
  rw [xup_comm _ (show 0 ≠ 54 + 3 * f by omega), xup_comm _ (show 0 ≠ 54 + 3 * f by omega), xfl_xup _ (show 54 + 3 * f + 1 ≠ 0 by omega), xfl_xup _ (show 54 + 3 * f + 1 ≠ 0 by omega)]
theorem rep_s (M : xM) (e w v : Int32) : stI (tX5_report M e w) 0 10 v = tX5_report (stI M 0 10 v) e w := by
  unfold tX5_report
  rw [stI_ck _ 0 (show 13 ≠ 10 by decide), stI_ck M 0 (show 12 ≠ 10 by decide)]
theorem isA_of {A : xM} {a k : Nat} (h : mI A a 0 = nI k) (hk : k < 16) : sX2_isArray A a = decide (k ≤ 13) := by
  have hd := kdI_dec k hk
  unfold sX2_isArray
  rw [h, if_neg (Int32.not_lt.mpr hd.2.1)]
  by_cases c : k ≤ 13
  · have c2 : nI k ≤ (13 : Int32) := hd.2.2.1.mpr (by omega)
    rw [decide_eq_true c, if_neg (Int32.not_lt.mpr c2)]
  · have c2 : ¬ nI k ≤ (13 : Int32) := fun z => c (by have := hd.2.2.1.mp z; omega)
    rw [decide_eq_false c, if_pos (Int32.not_le.mp c2)]
theorem fc_readAs : Fc_readAs Rel := by
  intro a0 MC MR hR
  rcases n13_cases a0 with ⟨n1, n2⟩ | ⟨b, hb, rfl, n1, n2, n3⟩
  · rcases n1 with n1 | ⟨n1, n1'⟩
    · exact fcI (sp_X5_readAs_b1 (d := 200) (by decide) a0 hR.1 n1) (sp_X6_readAs_b (d := 200) (by decide) a0 hR.2.1 n2) rfl (Rel_tells hR _ _)
    · exact fcI (sp_X5_readAs_b2 (d := 200) (by decide) a0 hR.1 n1 n1') (sp_X6_readAs_b (d := 200) (by decide) a0 hR.2.1 n2) rfl (Rel_tells hR _ _)
  · rw [nIL (by omega)] at n3
    obtain ⟨L, p, l1, l2, l3, l4, l5, l6, -⟩ := RelB_len hR
    obtain ⟨s1, s2, s3⟩ := tp_S hR l4 l1
    have hti := sp_ti (d := 199) (by decide) hR.1 (s2 p) l2
    have hri := sp_ri (d := 199) (by decide) s1 (hR.2.2.1.k (ftM_I MR L (by decide) (by decide))) l2
    obtain ⟨κ, ζ, hS⟩ := hR.2.2.2.1
    cases e : pItem (tpB MR) L p with
    | error f =>
      rw [e] at hti hri
      have hf := pItem_e e l2
      refine fcX2 (sp_X5_readAs_f (d := 200) (P := fun A => CF (itM MC 2 p) A ∧ mI A 8 3 = nI f) (by decide) hR.1 l5 hb hti (fun A h => ⟨(rd_C hR (Or.inl rfl) h.1).1, h.2⟩)) (sp_X6_readAs_f (d := 200) (P := fun C => RFm (ftM MR L) C ∧ mI C 0 25 = nI f) (by decide) hR.2.1 l4 l1 l6 hb n3 hri (by omega) (fun C h => ⟨(rd_R hR h.1).1, h.2⟩)) rfl ?_
      rintro B D ⟨A, hA, rfl⟩ ⟨C, hC, rfl⟩
      exact Rel_tells (rd_Rel hR (Or.inl rfl) hA.1 hC.1).1 _ _
    | ok pr =>
      rw [e] at hti hri
      obtain ⟨hi, hq⟩ := pItem_ok s3 e
      obtain ⟨q, R⟩ := pr
      have hq : q ≤ L := hq
      have hi : iOk R := hi
      obtain ⟨i1, i2, i3, i4, -, -⟩ := iOk_0 hi
      have hPA : ∀ A, CS (itM MC 2 p) q R A → TC A ∧ mI A (10 + 3 * 0) 0 = nI (rK R 0) ∧ mI A (10 + 3 * 0) 1 = nI (rZ R 0) ∧ (∀ j, j < rZ R 0 → mI A (10 + 3 * 0 + 1) j = nI (rW R 0 j) ∧ mL A (10 + 3 * 0 + 2) j = rV R 0 j) ∧ mI A 8 2 = nI q := fun A h => by
        obtain ⟨a1, a2, a3, a4, a5, a6⟩ := h.2.2.2.2.2 0 i1
        exact ⟨(rd_C hR (Or.inl rfl) h.1).1, a3, a4, a6, h.2.2.1⟩
      have hPC : ∀ C, (RFm (ftM MR L) C ∧ mI C 0 25 = -1 ∧ RSr R C ∧ (rK R 0 < 14 → mI C 0 26 = nI R.1)) → TR C ∧ mI C 0 25 = -1 ∧ mI C 1 12 = nI (rK R 0) := fun C h => ⟨(rd_R hR h.1).1, h.2.1, (h.2.2.1.2 0 i1).2.2.1⟩
      by_cases hk : rK R 0 ≤ 13
      · obtain ⟨-, -, hz, hc⟩ := iOk_c hi (t := 0) (by rw [i3]; omega)
        have hPD : ∀ C, (RFm (ftM MR L) C ∧ mI C 0 25 = -1 ∧ RSr R C ∧ (rK R 0 < 14 → mI C 0 26 = nI R.1)) → mI C 2 12 = nI (rZ R 0) ∧ ∀ j, j < rZ R 0 → mI C 4 (144 + j) = nI (rW R 0 j) ∧ mL C 5 (144 + j) = vR (rW R 0 j) (rV R 0 j) := fun C h => ⟨(h.2.2.1.2 0 i1).2.2.2.1, (h.2.2.1.2 0 i1).2.2.2.2.2⟩
        have hw : ∀ k, k < rZ R 0 → rW R 0 k < 12 := fun k hk => (hc k hk).1
        have hia : ∀ A, CS (itM MC 2 p) q R A → sX2_isArray A (10 + 3 * 0) = true := fun A h => by rw [isA_of (hPA A h).2.1 i4, decide_eq_true hk]
        have hho : ∀ A, CS (itM MC 2 p) q R A → Sp (fX2_holdsArray 199) [.ref (10 + 3 * 0)] A (dt (some (.int (bz (any (fun k => decide (mI A (10 + 3 * 0 + 1) k = 10)) (rZ R 0) 0)))) A) := fun A h => sp_X2_holdsArray (d := 199) (Nat.zero_le _) (rZ R 0) ((hPA A h).1.rrow (by decide)) (hPA A h).2.2.1 hz
        have h10 : ∀ A, CS (itM MC 2 p) q R A → ∀ k, k < rZ R 0 → (mI A (10 + 3 * 0 + 1) k = 10 ↔ rW R 0 k = 10) := fun A h k hk => by
          rw [((hPA A h).2.2.2.1 k hk).1]
          have := hw k hk
          exact ⟨fun z => nI_inj (by omega) (by decide) (z.trans (show (10 : Int32) = nI 10 from rfl)), fun z => by rw [z]; rfl⟩
        rcases first_or (fun k => decide (¬ rW R 0 k = 10)) (rZ R 0) with hno | ⟨m, m1, m2, m3⟩
        · have hno : ∀ k, k < rZ R 0 → ¬ rW R 0 k = 10 := fun k hk => of_decide_eq_true (hno k hk)
          have hho2 : ∀ A, CS (itM MC 2 p) q R A → Sp (fX2_holdsArray 199) [.ref (10 + 3 * 0)] A (dt (some (.int (bz false))) A) := fun A h => by
            have := hho A h
            rw [any_no (rZ R 0) 0 (fun j _ h2 => decide_eq_false (fun z => hno j (by omega) ((h10 A h j (by omega)).mp z)))] at this
            exact this
          have hV : ∀ k, k < rZ R 0 → okV κ (rW R 0 k) (rV R 0 k) := fun k hk => by
            obtain ⟨o1, -, -, -, -, -, -, o8, o9, o10, -, o12⟩ := hc k hk
            exact ⟨o1, o8, o9, o10, fun z => absurd z (hno k hk), o12⟩
          have hacc : ∀ A, CS (itM MC 2 p) q R A → ∀ k, k < rZ R 0 → sX5_accepts A (nI b) (nI (rW R 0 k)) (rV R 0 k) = tkB false b (rW R 0 k) (rV R 0 k) := fun A h k hk => (acc_of (fun t ht => (Rel_rdC hR (Or.inl rfl) h.1).2 κ ζ t (hS t ht)) hb (hw k hk) (fun z => absurd z (hno k hk))).trans (tkB_x (hno k hk) _ _)
          have hV5 : ∀ C, (RFm (ftM MR L) C ∧ mI C 0 25 = -1 ∧ RSr R C ∧ (rK R 0 < 14 → mI C 0 26 = nI R.1)) → ∀ k, k < rZ R 0 → mL C 5 (144 + k) = rV R 0 k := fun C h k hk => ((hPD C h).2 k hk).2.trans (if_neg (hno k hk))
          have h13 : ∀ k, k < rZ R 0 → b = 13 → rW R 0 k = 10 → vp_in (rV R 0 k).toInt32 24 := fun k hk _ z => absurd z (hno k hk)
          rcases first_or (fun k => tkB false b (rW R 0 k) (rV R 0 k)) (rZ R 0) with hall | ⟨m, m1, m2, m3⟩
          · have hfr : ∀ C, (RFm (ftM MR L) C ∧ mI C 0 25 = -1 ∧ RSr R C ∧ (rK R 0 < 14 → mI C 0 26 = nI R.1)) → Sp (fX6_firstRefused 199) [.ref 0, .int 12, .int (nI b)] C (fun r D => r = some (.int (-1)) ∧ ∃ x y, D = tkM C x y) := fun C h => sp_fr_all (d := 199) (by decide) (t := 12) b (rZ R 0) (rW R 0) (rV R 0) (hPC C h).1 (by decide) (hPD C h).1 hz (fun k hk => ((hPD C h).2 k hk).1) (hV5 C h) hb hw h13 (fun k hk => (hV k hk).f6) (fun k hk => (tkB_x (hno k hk) _ _).trans (hall k hk))
            have hlowA : ∀ A, CS (itM MC 2 p) q R A → sX5_lowestEmpty A = sX6_free MR := fun A h => Rel_low (Rel_rdC hR (Or.inl rfl) h.1).1.2.2.2.1
            have hlowC : ∀ C, (RFm (ftM MR L) C ∧ mI C 0 25 = -1 ∧ RSr R C ∧ (rK R 0 < 14 → mI C 0 26 = nI R.1)) → sX6_free C = sX6_free MR := fun C h => (Rel_low (Rel_rdR (Rel_ft hR L).1 h.1).1.2.2.2.1).symm.trans (Rel_low hR.2.2.2.1)
            rcases free_cases hS with ef | ⟨f, hf, ef, hkf⟩
            · refine fcX2 (sp_X5_readAs_c (d := 200) (P := fun A => CS (itM MC 2 p) q R A) (K := fun A => tX5_report A (-3) (-1)) (x := -3) (by decide) hR.1 hb l5 hti (fun A h => (hPA A h).1) hia hho2 (fun A h => sp_kc_full (d := 199) (by decide) b (rZ R 0) (rW R 0) (rV R 0) (hPA A h).1 ((hPA A h).1.rrow (by decide)) (hPA A h).2.2.1 hz (fun k hk => ((hPA A h).2.2.2.1 k hk).1) (fun k hk => ((hPA A h).2.2.2.1 k hk).2) (fun k hk => (hacc A h k hk).trans (hall k hk)) ((hlowA A h).trans ef)) (fun A h => ((sT.I A 0 12 _).tr (sT.I _ 0 13 _)).TC (hPA A h).1) (by decide)) (sp_X6_readAs_u (d := 200) (P := fun C => RFm (ftM MR L) C ∧ mI C 0 25 = -1 ∧ RSr R C ∧ (rK R 0 < 14 → mI C 0 26 = nI R.1)) (by decide) hR.2.1 l4 l1 l6 hb n3 hri hPC i4 hk (fun C h => (hPD C h).1) hz (fun C h k hk => ((hPD C h).2 k hk).1) hw hno hfr (fun C h => (hlowC C h).trans ef)) rfl ?_
              rintro B D ⟨A, hA, rfl⟩ ⟨C, hC, x, y, rfl⟩
              exact Rel_tells (Rel_tk (rd_Rel hR (Or.inl rfl) hA.1 hC.1).1 x y).1 _ _
            · have hTs : ∀ C, TR C → TR (stI C 0 7 (nI q)) := fun C h => (sT.I C 0 7 (nI q)).TR h
              have hcv : ∀ C, (RFm (ftM MR L) C ∧ mI C 0 25 = -1 ∧ RSr R C ∧ (rK R 0 < 14 → mI C 0 26 = nI R.1)) → ∀ x y, Sp (fX6_converted 199) [.ref 0, .int 12, .int (nI b)] (stI (tkM C x y) 0 7 (nI q)) (fun r D => r = some (.int (nI f)) ∧ ∃ C, (RFm (ftM MR L) C ∧ mI C 0 25 = -1 ∧ RSr R C ∧ (rK R 0 < 14 → mI C 0 26 = nI R.1)) ∧ ∃ x y, D = tX6_tells (tkM (cvY (stI C 0 7 (nI q)) f b (rZ R 0) (rW R 0) (rV R 0) (rZ R 0)) x y) 0 (-1)) := fun C h x y => by
                rw [tkM_s7]
                have h1f : mI (stI C 0 7 (nI q)) 1 f = -1 := by
                  rw [mI_stI_c _ _ _ (by decide), ((Rel_rdR (Rel_ft hR L).1 h.1).2 κ ζ f hf ((Rel_ft hR L).2 κ ζ f (hS f hf))).2.2.2.1, hkf]; rfl
                have hfs : sX6_free (stI C 0 7 (nI q)) = nI f := ((show sX6_free (stI C 0 7 (nI q)) = sX6_free C from rfl).trans (hlowC C h)).trans ef
                refine (sp_convS (d := 199) (by decide) (M := stI C 0 7 (nI q)) x y (t := 12) b (rZ R 0) f (rW R 0) (rV R 0) (hTs C (hPC C h).1) (by decide) ?_ hz (fun k hk => ?_) (fun k hk => hV5 C h k hk) hb hw h13 (fun k hk => (hV k hk).f6) hf hfs (by omega) h1f (fun k hk => (tkB_x (hno k hk) _ _).trans (hall k hk))).weaken (fun r D hD => ⟨hD.1, C, h, hD.2⟩)
                · rw [mI_stI_c _ _ _ (by decide)]; exact (hPD C h).1
                · rw [mI_stI_c _ _ _ (by decide)]; exact ((hPD C h).2 k hk).1
              refine fcX2 (sp_X5_readAs_k (d := 200) (q := q) (P := fun A => CS (itM MC 2 p) q R A) (K := fun A => tX5_report (cvX A f b (rZ R 0) (rW R 0) (rV R 0) (rZ R 0)) 0 (-1)) (by decide) hR.1 hb l5 hti (fun A h => (hPA A h).1) hia hho2 (fun A h => sp_kc_ok (d := 199) (by decide) b (rZ R 0) (rW R 0) (rV R 0) (hPA A h).1 ((hPA A h).1.rrow (by decide)) (hPA A h).2.2.1 hz (fun k hk => ((hPA A h).2.2.2.1 k hk).1) (fun k hk => ((hPA A h).2.2.2.1 k hk).2) (fun k hk => (hacc A h k hk).trans (hall k hk)) f hf ((hlowA A h).trans ef) (by omega) hb (fun k hk z => by
                  have := hall k hk
                  unfold tkB at this
                  rw [if_pos z, Bool.and_eq_true] at this
                  exact of_decide_eq_true this.1) (fun k hk => (hV k hk).f6)) (fun A h => ⟨((sT_cvX A f b _ _ _ _).tr ((sT.I _ 0 12 _).tr (sT.I _ 0 13 _))).TC (hPA A h).1, ?_⟩) hf) (sp_X6_readAs_k (d := 200) (P := fun C => RFm (ftM MR L) C ∧ mI C 0 25 = -1 ∧ RSr R C ∧ (rK R 0 < 14 → mI C 0 26 = nI R.1)) (by decide) hR.2.1 l4 l1 l6 hb n3 hri hPC i4 hk (fun C h => (hPD C h).1) hz (fun C h k hk => ((hPD C h).2 k hk).1) hw hno hfr hf (fun C h => (hlowC C h).trans ef) hcv) rfl ?_
              · show mI (tX5_report (cvX A f b (rZ R 0) (rW R 0) (rV R 0) (rZ R 0)) 0 (-1)) 8 2 = nI q
                unfold tX5_report
                rw [mI_stI_c _ _ _ (by decide), mI_stI_c _ _ _ (by decide), cvX_I _ _ _ _ _ _ _ (by omega) (by omega)]
                exact (hPA A h).2.2.2.2
              · rintro B D ⟨A, hA, rfl⟩ ⟨C, hC, x, y, rfl⟩
                have hAC := rd_Rel hR (Or.inl rfl) hA.1 hC.1
                show Rel (stI (tX5_report (cvX A f b (rZ R 0) (rW R 0) (rV R 0) (rZ R 0)) 0 (-1)) 0 10 (nI q)) _
                rw [rep_s, ← cvX_s]
                refine Rel_tells (Rel_tk (Rel_conv (κ := κ) (ζ := ζ) (Rel_pos hAC.1 (((rd_R hR hC.1).2.2).trans l4) l1 hq) (fun t ht => ?_) hf hkf hb hz hV (fun k hk => (tkB_x (hno k hk) _ _).trans (hall k hk))) x y).1 _ _
                exact (hAC.2 κ ζ t ht (hS t ht)).k (fun k => congrFun (mI_stI_c _ _ _ (by omega)) k) (fun k _ => congrFun (mI_stI_c _ _ _ (by omega)) k) (fun k _ => rfl) (congrFun (mI_stI_c _ _ _ (by decide)) t) (congrFun (mI_stI_c _ _ _ (by decide)) t) rfl (fun i _ => congrFun (mI_stI_c _ _ _ (by decide)) _) (fun i _ => rfl)
          · have m2 : tkB false b (rW R 0 m) (rV R 0 m) = false := m2
            refine fcX2 (sp_X5_readAs_c (d := 200) (P := fun A => CS (itM MC 2 p) q R A) (K := fun A => tX5_report A (-9) (nI m)) (x := -9) (by decide) hR.1 hb l5 hti (fun A h => (hPA A h).1) hia hho2 (fun A h => sp_kc_ref (d := 199) (by decide) b (rZ R 0) (rW R 0) (rV R 0) (hPA A h).1 ((hPA A h).1.rrow (by decide)) (hPA A h).2.2.1 hz (fun k hk => ((hPA A h).2.2.2.1 k hk).1) (fun k hk => ((hPA A h).2.2.2.1 k hk).2) m m1 ((hacc A h m m1).trans m2) (fun k hk => (hacc A h k (by omega)).trans (m3 k hk))) (fun A h => ((sT.I A 0 12 _).tr (sT.I _ 0 13 _)).TC (hPA A h).1) (by decide)) (sp_X6_readAs_r (d := 200) (P := fun C => RFm (ftM MR L) C ∧ mI C 0 25 = -1 ∧ RSr R C ∧ (rK R 0 < 14 → mI C 0 26 = nI R.1)) (by decide) hR.2.1 l4 l1 l6 hb n3 hri hPC i4 hk (fun C h => (hPD C h).1) hz (fun C h k hk => ((hPD C h).2 k hk).1) hw hno (show m < 12 by omega) (fun C h => sp_fr_ref (d := 199) (by decide) (t := 12) b (rZ R 0) (rW R 0) (rV R 0) (hPC C h).1 (by decide) (hPD C h).1 hz (fun k hk => ((hPD C h).2 k hk).1) (hV5 C h) hb hw h13 (fun k hk => (hV k hk).f6) m m1 ((tkB_x (hno m m1) _ _).trans m2) (fun k hk => (tkB_x (hno k (by omega)) _ _).trans (m3 k hk)))) rfl ?_
            rintro B D ⟨A, hA, rfl⟩ ⟨C, hC, x, y, rfl⟩
            exact Rel_tells (Rel_tk (rd_Rel hR (Or.inl rfl) hA.1 hC.1).1 x y).1 _ _
        · have m2 : rW R 0 m = 10 := by
            have := of_decide_eq_false m2
            omega
          refine fcX2 (sp_X5_readAs_a (d := 200) (P := fun A => CS (itM MC 2 p) q R A) (by decide) hR.1 hb l5 hti (fun A h => (hPA A h).1) hia (fun A h => ?_)) (sp_X6_readAs_a (d := 200) (P := fun C => RFm (ftM MR L) C ∧ mI C 0 25 = -1 ∧ RSr R C ∧ (rK R 0 < 14 → mI C 0 26 = nI R.1)) (by decide) hR.2.1 l4 l1 l6 hb n3 hri hPC i4 hk (fun C h => (hPD C h).1) hz (fun C h k hk => ((hPD C h).2 k hk).1) hw m1 m2 (fun k hk => of_decide_eq_true (m3 k hk))) rfl ?_
          · have := hho A h
            rw [any_ex (rZ R 0) 0 m (Nat.zero_le _) (by omega) (decide_eq_true ((h10 A h m m1).mpr m2))] at this
            exact this
          · rintro B D ⟨A, hA, rfl⟩ ⟨C, hC, rfl⟩
            exact Rel_tells (rd_Rel hR (Or.inl rfl) hA.1 hC.1).1 _ _
      · refine fcX2 (sp_X5_readAs_n (d := 200) (P := fun A => CS (itM MC 2 p) q R A) (by decide) hR.1 hb l5 hti (fun A h => (hPA A h).1) (fun A h => by rw [isA_of (hPA A h).2.1 i4, decide_eq_false hk])) (sp_X6_readAs_n (d := 200) (P := fun C => RFm (ftM MR L) C ∧ mI C 0 25 = -1 ∧ RSr R C ∧ (rK R 0 < 14 → mI C 0 26 = nI R.1)) (by decide) hR.2.1 l4 l1 l6 hb n3 hri hPC i4 hk) rfl ?_
        rintro B D ⟨A, hA, rfl⟩ ⟨C, hC, rfl⟩
        exact Rel_tells (rd_Rel hR (Or.inl rfl) hA.1 hC.1).1 _ _
