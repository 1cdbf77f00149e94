-- WHAT IS WRITTEN IS READ BACK: arrays
def tgc (k b : Nat) : Bool := sX1_mayStand (nI k) (nI b) && !(sX1_isArrayTag (nI b))
def tgd (k w : Nat) : Bool := !(decide (k = 12 ∨ w = 11 ∨ (k = 8 ∧ w = 4) ∨ (k = 9 ∧ w = 8) ∨ ((k = 10 ∨ k = 11) ∧ w = 9) ∨ (k = 13 ∧ w = 10))) || tgc k w
theorem tgd_t : ∀ k, k < 14 → 8 ≤ k → ∀ w, w < 12 → tgd k w = true := by decide +kernel
theorem tgc_t (k : Nat) (h1 : k < 14) (h2 : 8 ≤ k) (w : Nat) (h3 : w < 12) (h4 : k = 12 ∨ w = 11 ∨ (k = 8 ∧ w = 4) ∨ (k = 9 ∧ w = 8) ∨ ((k = 10 ∨ k = 11) ∧ w = 9) ∨ (k = 13 ∧ w = 10)) : tgc k w = true := by
  have h := tgd_t k h1 h2 w h3
  unfold tgd at h
  rw [decide_eq_true h4, Bool.not_true, Bool.false_or] at h
  exact h
theorem tga_t : ∀ k, k < 14 → sX1_isArrayTag (nI (16 + k)) = true ∧ sX1_mayStand (nI 12) (nI (16 + k)) = true ∧ (k = 4 → sX1_mayStand (nI 13) (nI (16 + k)) = true) ∧ (16 + k) / 16 = 1 ∧ (16 + k) % 16 = k := by decide
section
variable {K Z : Nat → Nat} {W : Nat → Nat → Nat} {V : Nat → Nat → Int64}
/-- the value of a cell in an item whose arrays are these -/
def vI (W : Nat → Nat → Nat) (V : Nat → Nat → Int64) (ms : List Nat) (t j : Nat) : Int64 := if W t j = 10 then lN (ms.idxOf (lC (V t j))) else V t j
def Img (K Z : Nat → Nat) (ms : List Nat) (R : pR) : Prop := R.1 = ms.length ∧ ∀ i, i < ms.length → rK R i = K (ms.getD i 0) ∧ rZ R i = Z (ms.getD i 0)
def cmR (Z : Nat → Nat) (W : Nat → Nat → Nat) (V : Nat → Nat → Int64) (mF : List Nat) (R : pR) (i t : Nat) : Prop := ∀ j, j < Z t → rW R i j = W t j ∧ rV R i j = vI W V mF t j
theorem gDp {ms mF : List Nat} (h : ms <+: mF) {i : Nat} (hi : i < ms.length) : mF.getD i 0 = ms.getD i 0 := by
  obtain ⟨r, rfl⟩ := h
  simp [List.getElem?_append_left, hi]
theorem iXp {ms mF : List Nat} (h : ms <+: mF) {u : Nat} (hu : u ∈ ms) : mF.idxOf u = ms.idxOf u := by
  obtain ⟨r, rfl⟩ := h
  rw [List.idxOf_append, if_pos hu]
theorem gD_ix {ms : List Nat} {u : Nat} (hu : u ∈ ms) : ms.getD (ms.idxOf u) 0 = u := by
  have h := List.idxOf_lt_length_of_mem hu
  rw [List.getD_eq_getElem?_getD, List.getElem?_eq_getElem h]
  exact List.getElem_idxOf h
theorem wA_px (m : Nat) : ∀ g t ms, ms <+: (wA m K Z W V g t ms).2 := by
  intro g
  induction g with
  | zero =>
    intro t ms
    unfold wA
    split <;> exact List.prefix_refl _
  | succ g ih =>
    intro t ms
    unfold wA
    split
    · exact List.prefix_refl _
    · split
      · exact List.prefix_append _ _
      · have ce : ∀ n j ms, ms <+: (ceB (wA m K Z W V g) (W t) (V t) n j ms).2 := by
          intro n
          induction n with
          | zero => intro j ms; exact List.prefix_refl _
          | succ n ihn =>
            intro j ms
            unfold ceB
            split
            · exact (ih _ ms).trans (ihn (j + 1) _)
            · exact ihn (j + 1) ms
        exact (List.prefix_append ms [t]).trans (ce (Z t) 0 (ms ++ [t]))
theorem ceB_px (m g t : Nat) : ∀ n j ms, ms <+: (ceB (wA m K Z W V g) (W t) (V t) n j ms).2 := by
  intro n
  induction n with
  | zero => intro j ms; exact List.prefix_refl _
  | succ n ihn =>
    intro j ms
    unfold ceB
    split
    · exact (wA_px m g _ ms).trans (ihn (j + 1) _)
    · exact ihn (j + 1) ms
theorem Img.set {ms : List Nat} {R : pR} (h : Img K Z ms R) (t j w : Nat) (v : Int64) : Img K Z ms (rSet R t j w v) := h
theorem Img.new {ms : List Nat} {R : pR} (h : Img K Z ms R) (t : Nat) : Img K Z (ms ++ [t]) (rNew R (K t) (Z t)) := by
  obtain ⟨h1, h2⟩ := h
  refine ⟨by show R.1 + 1 = _; rw [List.length_append, h1]; rfl, fun i hi => ?_⟩
  rw [List.length_append, List.length_singleton] at hi
  by_cases c : i = R.1
  · have e : (ms ++ [t]).getD i 0 = t := by rw [c, h1]; exact gD_r ms t 0
    rw [e]
    refine ⟨?_, ?_⟩
    · show xnw R.2.1 R.1 (K t) i = _; unfold xnw; rw [if_pos c]
    · show xnw R.2.2.1 R.1 (Z t) i = _; unfold xnw; rw [if_pos c]
  · have e : (ms ++ [t]).getD i 0 = ms.getD i 0 := gD_l ms t 0 (by omega)
    rw [e]
    refine ⟨?_, ?_⟩
    · show xnw R.2.1 R.1 (K t) i = _; unfold xnw; rw [if_neg c]; exact (h2 i (by omega)).1
    · show xnw R.2.2.1 R.1 (Z t) i = _; unfold xnw; rw [if_neg c]; exact (h2 i (by omega)).2
/-- what a written array reads as -/
def RT (B : Nat → Nat) (L : Nat) (K Z : Nat → Nat) (W : Nat → Nat → Nat) (V : Nat → Nat → Int64) (mF : List Nat) (g : Nat) : Prop :=
  ∀ t ms p (R : pR) g', t < 12 → K t < 14 → t ∉ ms → msOk ms → Img K Z ms R → 12 ≤ ms.length + g → 12 ≤ ms.length + g' → (wA 0 K Z W V g t ms).2 <+: mF → atB B L p (wA 0 K Z W V g t ms).1 →
    p < L ∧ B p = 16 + K t ∧ ∃ R', pArr B L g' (B p) p R = .ok (p + (wA 0 K Z W V g t ms).1.length, R') ∧ Img K Z (wA 0 K Z W V g t ms).2 R' ∧ (∀ i, ms.length ≤ i → i < (wA 0 K Z W V g t ms).2.length → cmR Z W V mF R' i ((wA 0 K Z W V g t ms).2.getD i 0)) ∧ (∀ i, i < ms.length → rW R' i = rW R i ∧ rV R' i = rV R i) ∧ ms ++ [t] <+: (wA 0 K Z W V g t ms).2
theorem rt_cells {B : Nat → Nat} {L : Nat} {mF : List Nat} (hB : ∀ i, i < L → B i < 256) (hL : lkOk K Z W V) (hC : ∀ t, t < 12 → K t < 14 → ∀ j, j < Z t → okC K (K t) (W t j) (V t j)) {g t i0 g' : Nat} (hRT : RT B L K Z W V mF g) (ht : t < 12) (hk : K t < 14) (hk8 : 8 ≤ K t) : ∀ n j p (R : pR) ms, j + n = Z t → i0 < ms.length → msOk ms → Img K Z ms R → 12 ≤ ms.length + g → 12 ≤ ms.length + g' → (ceB (wA 0 K Z W V g) (W t) (V t) n j ms).2 <+: mF → atB B L p (ceB (wA 0 K Z W V g) (W t) (V t) n j ms).1 →
    ∃ R', pObj B L (pArr B L g') (K t) i0 n j p R = .ok (p + (ceB (wA 0 K Z W V g) (W t) (V t) n j ms).1.length, R') ∧ Img K Z (ceB (wA 0 K Z W V g) (W t) (V t) n j ms).2 R' ∧ (∀ i, ms.length ≤ i → i < (ceB (wA 0 K Z W V g) (W t) (V t) n j ms).2.length → cmR Z W V mF R' i ((ceB (wA 0 K Z W V g) (W t) (V t) n j ms).2.getD i 0)) ∧ (∀ i, i < ms.length → i ≠ i0 → rW R' i = rW R i ∧ rV R' i = rV R i) ∧ (∀ x, x < j → rW R' i0 x = rW R i0 x ∧ rV R' i0 x = rV R i0 x) ∧ (∀ x, j ≤ x → x < Z t → rW R' i0 x = W t x ∧ rV R' i0 x = vI W V mF t x) := by
  intro n
  induction n with
  | zero =>
    intro j p R ms hj hi hms hI _ _ _ _
    exact ⟨R, rfl, hI, fun i h1 h2 => absurd h2 (Nat.not_lt.mpr h1), fun _ _ _ => ⟨rfl, rfl⟩, fun _ _ => ⟨rfl, rfl⟩, fun x h1 h2 => by omega⟩
  | succ n ih =>
    intro j p R ms hj hi hms hI hg hg' hpx hat
    have hjZ : j < Z t := by omega
    have hc := hC t ht hk j hjZ
    obtain ⟨-, hlc⟩ := hL t ht hk
    by_cases c10 : W t j = 10
    · -- a link
      obtain ⟨u, u1, u2, u3⟩ := (hlc j hjZ).2.1 c10
      have elu : lC (V t j) = u := by rw [u2, lC_N (by omega)]
      have ecB : ceB (wA 0 K Z W V g) (W t) (V t) (n + 1) j ms = ((wA 0 K Z W V g u ms).1 ++ (ceB (wA 0 K Z W V g) (W t) (V t) n (j + 1) (wA 0 K Z W V g u ms).2).1, (ceB (wA 0 K Z W V g) (W t) (V t) n (j + 1) (wA 0 K Z W V g u ms).2).2) := by
        show (if W t j = 10 then _ else _) = _
        rw [if_pos c10, elu]
      rw [ecB] at hpx hat ⊢
      dsimp only at hpx hat ⊢
      obtain ⟨a1, a2⟩ := atB.app hat
      have hk1213 : K t = 12 ∨ K t = 13 := by
        obtain ⟨-, -, o3, o4, o5, o6, -, -, -, -, -, -⟩ := hc
        rcases Nat.lt_or_ge (K t) 12 with z | z
        · exfalso
          have q3 := o3
          have : K t = 8 ∨ K t = 9 ∨ K t = 10 ∨ K t = 11 := by omega
          rcases this with z | z | z | z
          · rcases o3 z with y | y <;> omega
          · rcases o4 z with y | y <;> omega
          · rcases o5 z with y | y <;> omega
          · rcases o6 z with ⟨y, -⟩ | y <;> omega
        · omega
      have hk13 : K t = 13 → K u = 4 := fun z => by
        obtain ⟨u', v1, v2, v3, v4⟩ := hc.2.2.2.2.2.2.2.2.2.2.1 c10
        have e : u' = u := by
          have := congrArg lC (v2.symm.trans u2)
          rw [lC_N (by omega), lC_N (by omega)] at this
          exact this
        rw [← e]; exact v4 z
      have hR12 := ms_len hms
      by_cases cm : u ∈ ms
      · -- met before
        rw [wA_old g cm] at a1 a2 hpx ⊢
        dsimp only at a1 a2 hpx ⊢
        obtain ⟨b1, b2, b3⟩ := atB.hd a1
        obtain ⟨b4, b5, -⟩ := atB.hd b3
        have hix := List.idxOf_lt_length_of_mem cm
        have e1 : B p = 10 := atB_n hB b1 (by decide) b2
        have e2 : B (p + 1) = ms.idxOf u := atB_n hB b4 (by omega) b5
        have htc := tgc_t (K t) hk hk8 10 (by decide) (by omega)
        unfold tgc at htc
        rw [Bool.and_eq_true, Bool.not_eq_true'] at htc
        have hpx2 : ms <+: mF := (ceB_px 0 g t n (j + 1) ms).trans hpx
        have hel : pElem B L R (K t) 10 (p + 1) = .ok (lN (ms.idxOf u), p + 2) := by
          show pLink B L (rK R) R.1 (K t) (p + 1) = _
          unfold pLink
          rw [e2, if_pos ⟨b4, by rw [hI.1]; exact hix, fun z => by rw [(hI.2 _ hix).1, gD_ix cm]; exact hk13 z⟩]
        obtain ⟨R', g1, g2, g3, g4, g5, g6⟩ := ih (j + 1) (p + 2) (rSet R i0 j 10 (lN (ms.idxOf u))) ms (by omega) hi hms (hI.set _ _ _ _) hg hg' hpx (by exact a2)
        refine ⟨R', ?_, g2, g3, fun i x1 x2 => ?_, fun x hx => ?_, fun x x1 x2 => ?_⟩
        · unfold pObj
          rw [e1, if_pos ⟨b1, htc.1⟩, if_neg (by rw [htc.2]; decide), hel]
          show pObj B L (pArr B L g') (K t) i0 n (j + 1) (p + 2) (rSet R i0 j 10 (lN (ms.idxOf u))) = _
          rw [g1, List.length_append, ← Nat.add_assoc]
          rfl
        · rw [(g4 i x1 x2).1, (g4 i x1 x2).2]
          exact ⟨xup_n _ _ _ x2, xup_n _ _ _ x2⟩
        · rw [(g5 x (by omega)).1, (g5 x (by omega)).2]
          exact ⟨xup_k _ _ _ (by omega) _, xup_k _ _ _ (by omega) _⟩
        · by_cases cx : x = j
          · rw [cx, (g5 j (by omega)).1, (g5 j (by omega)).2]
            refine ⟨(xup_s _ _ _ _).trans c10.symm, (xup_s _ _ _ _).trans ?_⟩
            unfold vI
            rw [if_pos c10, elu, iXp hpx2 cm]
          · exact g6 x (by omega) x2
      · -- a new array
        have hinv := wA_inv (m := 0) hL g u ms u1 u3 hms
        have hpx1 : (wA 0 K Z W V g u ms).2 <+: mF := (ceB_px 0 g t n (j + 1) _).trans hpx
        obtain ⟨b1, e1, R1, g1, g2, g3, g4, g5⟩ := hRT u ms p R g' u1 u3 cm hms hI hg hg' hpx1 a1
        generalize hwu : wA 0 K Z W V g u ms = wu at a1 a2 hpx hpx1 hinv g1 g2 g3 g5 ⊢
        obtain ⟨t1, t2, t3, -, -⟩ := tga_t (K u) u3
        have hms2 : sX1_mayStand (nI (K t)) (nI (16 + K u)) = true := by
          rcases hk1213 with z | z
          · rw [z]; exact t2
          · rw [z]; exact t3 (hk13 z)
        obtain ⟨R', q1, q2, q3, q4, q5, q6⟩ := ih (j + 1) (p + wu.1.length) (rSet R1 i0 j 10 (lN R.1)) wu.2 (by omega) (by omega) hinv.1 (g2.set _ _ _ _) (by omega) (by omega) hpx a2
        refine ⟨R', ?_, q2, fun i x1 x2 => ?_, fun i x1 x2 => ?_, fun x hx => ?_, fun x x1 x2 => ?_⟩
        · rw [e1] at g1
          unfold pObj
          rw [e1, if_pos ⟨b1, hms2⟩, if_pos t1, g1]
          show pObj B L (pArr B L g') (K t) i0 n (j + 1) (p + wu.1.length) (rSet R1 i0 j 10 (lN R.1)) = _
          rw [q1, List.length_append, Nat.add_assoc]
        · by_cases cw : i < wu.2.length
          · have eg := gDp (ceB_px (K := K) (Z := Z) (W := W) (V := V) 0 g t n (j + 1) wu.2) cw
            rw [eg]
            intro y hy
            have := g3 i x1 cw y hy
            rw [(q4 i cw (by omega)).1, (q4 i cw (by omega)).2]
            rw [show rW (rSet R1 i0 j 10 (lN R.1)) i = rW R1 i from xup_n _ _ _ (by omega), show rV (rSet R1 i0 j 10 (lN R.1)) i = rV R1 i from xup_n _ _ _ (by omega)]
            exact this
          · exact q3 i (by omega) x2
        · rw [(q4 i (by omega) x2).1, (q4 i (by omega) x2).2]
          rw [show rW (rSet R1 i0 j 10 (lN R.1)) i = rW R1 i from xup_n _ _ _ x2, show rV (rSet R1 i0 j 10 (lN R.1)) i = rV R1 i from xup_n _ _ _ x2]
          exact g4 i x1
        · rw [(q5 x (by omega)).1, (q5 x (by omega)).2]
          rw [show rW (rSet R1 i0 j 10 (lN R.1)) i0 x = rW R1 i0 x from xup_k _ _ _ (by omega) _, show rV (rSet R1 i0 j 10 (lN R.1)) i0 x = rV R1 i0 x from xup_k _ _ _ (by omega) _, (g4 i0 hi).1, (g4 i0 hi).2]
          exact ⟨rfl, rfl⟩
        · by_cases cx : x = j
          · rw [cx, (q5 j (by omega)).1, (q5 j (by omega)).2]
            refine ⟨(xup_s _ _ _ _).trans c10.symm, (xup_s _ _ _ _).trans ?_⟩
            unfold vI
            have hix : mF.idxOf u = ms.length := by
              rw [iXp (g5.trans hpx1) (List.mem_append_right _ (List.mem_singleton.mpr rfl)), List.idxOf_append, if_neg cm]
              simp
            rw [if_pos c10, elu, hix, hI.1]
          · exact q6 x (by omega) x2
    · -- no link
      have ecB : ceB (wA 0 K Z W V g) (W t) (V t) (n + 1) j ms = (elB (W t j) (V t j) ++ (ceB (wA 0 K Z W V g) (W t) (V t) n (j + 1) ms).1, (ceB (wA 0 K Z W V g) (W t) (V t) n (j + 1) ms).2) := by
        show (if W t j = 10 then _ else _) = _
        rw [if_neg c10]
      rw [ecB] at hpx hat ⊢
      dsimp only at hpx hat ⊢
      obtain ⟨a1, a2⟩ := atB.app hat
      obtain ⟨b1, e1, hel⟩ := rt_el (R := R) hB hc c10 a1
      have w12 := hc.1
      have htc : tgc (K t) (W t j) = true := by
        refine tgc_t (K t) hk hk8 (W t j) w12 ?_
        obtain ⟨-, -, o3, o4, o5, o6, o7, -, -, -, -, -⟩ := hc
        have : K t = 8 ∨ K t = 9 ∨ K t = 10 ∨ K t = 11 ∨ K t = 12 ∨ K t = 13 := by omega
        rcases this with z | z | z | z | z | z
        · have := o3 z; omega
        · have := o4 z; omega
        · have := o5 z; omega
        · rcases o6 z with ⟨y, -⟩ | y
          · exact Or.inr (Or.inr (Or.inr (Or.inr (Or.inl ⟨Or.inr z, y⟩))))
          · exact Or.inr (Or.inl y)
        · exact Or.inl z
        · have := o7 z; omega
      unfold tgc at htc
      rw [Bool.and_eq_true, Bool.not_eq_true'] at htc
      obtain ⟨R', g1, g2, g3, g4, g5, g6⟩ := ih (j + 1) (p + (elB (W t j) (V t j)).length) (rSet R i0 j (W t j) (V t j)) ms (by omega) hi hms (hI.set _ _ _ _) hg hg' hpx a2
      refine ⟨R', ?_, g2, g3, fun i x1 x2 => ?_, fun x hx => ?_, fun x x1 x2 => ?_⟩
      · unfold pObj
        rw [e1, if_pos ⟨b1, htc.1⟩, if_neg (by rw [htc.2]; decide), hel]
        show pObj B L (pArr B L g') (K t) i0 n (j + 1) (p + (elB (W t j) (V t j)).length) (rSet R i0 j (W t j) (V t j)) = _
        rw [g1, List.length_append, Nat.add_assoc]
      · rw [(g4 i x1 x2).1, (g4 i x1 x2).2]
        exact ⟨xup_n _ _ _ x2, xup_n _ _ _ x2⟩
      · rw [(g5 x (by omega)).1, (g5 x (by omega)).2]
        exact ⟨xup_k _ _ _ (by omega) _, xup_k _ _ _ (by omega) _⟩
      · by_cases cx : x = j
        · rw [cx, (g5 j (by omega)).1, (g5 j (by omega)).2]
          refine ⟨xup_s _ _ _ _, (xup_s _ _ _ _).trans ?_⟩
          unfold vI
          rw [if_neg c10]
        · exact g6 x (by omega) x2
end
