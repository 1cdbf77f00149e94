-- ITEMS, AS THEY ARE WRITTEN
def lC (v : Int64) : Nat := v.toBitVec.toNat
theorem lC_N {n : Nat} (h : n < 2 ^ 64) : lC (lN n) = n := lN_nat h
def foP (m k : Nat) : Nat := if m = 2 ∧ ¬ (0 < k ∧ k < 6) then 0 else m
def prB (m k z : Nat) (V : Nat → Int64) : List Int32 := [nI (16 * (foP m k + 1) + k), nI z] ++ (if foP m k = 1 then ruB k V z z 1 0 else if foP m k = 2 then ssB V z 0 0 else flB k V z 0)
theorem prB_len (m : Nat) {k : Nat} (hk : k < 8) {z : Nat} (hz : z ≤ 12) (V : Nat → Int64) : (prB m k z V).length ≤ 122 := by
  have h1 := ruB_len hk V z z 1 0
  have h2 := ssB_len V z 0 0
  have h3 := flB_len hk V z 0
  unfold prB
  rw [List.length_append, List.length_cons, List.length_cons, List.length_nil]
  split
  · omega
  · split <;> omega
def elB (w : Nat) (v : Int64) : List Int32 := nI w :: (if w = 8 then woB (lC v) else if w = 9 then [v.toInt32] else if w < 8 then nuC w v else [])
theorem elB_len (w : Nat) (v : Int64) : (elB w v).length ≤ 10 := by
  unfold elB
  rw [List.length_cons]
  split
  · have := dig_le 7 (lC v)
    unfold woB
    rw [List.length_cons, leB_len]
    omega
  · split
    · show 2 ≤ 10; omega
    · split
      · rename_i h
        have := nuC_len h v
        omega
      · show 1 ≤ 10; omega
def ceB (F : Nat → List Nat → List Int32 × List Nat) (W : Nat → Nat) (V : Nat → Int64) : Nat → Nat → List Nat → List Int32 × List Nat
  | 0, _, ms => ([], ms)
  | n + 1, j, ms =>
    if W j = 10 then ((F (lC (V j)) ms).1 ++ (ceB F W V n (j + 1) (F (lC (V j)) ms).2).1, (ceB F W V n (j + 1) (F (lC (V j)) ms).2).2)
    else (elB (W j) (V j) ++ (ceB F W V n (j + 1) ms).1, (ceB F W V n (j + 1) ms).2)
def wA (m : Nat) (K Z : Nat → Nat) (W : Nat → Nat → Nat) (V : Nat → Nat → Int64) : Nat → Nat → List Nat → List Int32 × List Nat
  | 0 => fun t ms => if t ∈ ms then ([10, nI (ms.idxOf t)], ms) else ([], ms)
  | g + 1 => fun t ms =>
    if t ∈ ms then ([10, nI (ms.idxOf t)], ms)
    else if K t < 8 then (prB m (K t) (Z t) (V t), ms ++ [t])
    else ([nI (16 + K t), nI (Z t)] ++ (ceB (wA m K Z W V g) (W t) (V t) (Z t) 0 (ms ++ [t])).1, (ceB (wA m K Z W V g) (W t) (V t) (Z t) 0 (ms ++ [t])).2)
/-- rows that may be written: links lead to arrays -/
def lkOk (K Z : Nat → Nat) (W : Nat → Nat → Nat) (V : Nat → Nat → Int64) : Prop := ∀ t, t < 12 → K t < 14 → Z t ≤ 12 ∧ ∀ j, j < Z t → W t j < 12 ∧ (W t j = 10 → ∃ u, u < 12 ∧ V t j = lN u ∧ K u < 14) ∧ (W t j = 8 → ∃ c, c < 2 ^ 63 ∧ V t j = lN c)
def msOk (ms : List Nat) : Prop := ms.Nodup ∧ ∀ x, x ∈ ms → x < 12
theorem ms_add {ms : List Nat} {t : Nat} (h : msOk ms) (ht : t < 12) (hn : t ∉ ms) : msOk (ms ++ [t]) := by
  refine ⟨List.nodup_append.mpr ⟨h.1, List.nodup_cons.mpr ⟨List.not_mem_nil, List.nodup_nil⟩, fun a ha b hb => ?_⟩, fun x hx => ?_⟩
  · rw [List.mem_singleton] at hb
    intro e
    exact hn (by rw [← hb, ← e]; exact ha)
  · rcases List.mem_append.mp hx with q | q
    · exact h.2 x q
    · rw [List.mem_singleton] at q; omega
theorem pigeon : ∀ (n : Nat) (ms : List Nat), ms.Nodup → (∀ x, x ∈ ms → x < n) → ms.length ≤ n := by
  intro n
  induction n with
  | zero =>
    intro ms h1 h2
    cases ms with
    | nil => exact Nat.le_refl _
    | cons a l => exact absurd (h2 a List.mem_cons_self) (by omega)
  | succ n ih =>
    intro ms h1 h2
    by_cases c : n ∈ ms
    · have e := List.length_erase_of_mem c
      have q := ih (ms.erase n) (h1.erase n) (fun x hx => by
        have := (h1.mem_erase_iff).mp hx
        have := h2 x this.2
        omega)
      omega
    · have q := ih ms h1 (fun x hx => by
        have := h2 x hx
        have : x ≠ n := fun e => c (e ▸ hx)
        omega)
      omega
theorem ms_len {ms : List Nat} (h : msOk ms) : ms.length ≤ 12 := pigeon 12 ms h.1 h.2
theorem ms_lt {ms : List Nat} (h : msOk ms) {t : Nat} (ht : t < 12) (hn : t ∉ ms) : ms.length < 12 := by
  have := ms_len (ms_add h ht hn)
  rw [List.length_append, List.length_cons, List.length_nil] at this
  omega
section
variable {m : Nat} {K Z : Nat → Nat} {W : Nat → Nat → Nat} {V : Nat → Nat → Int64}
theorem ce_inv (hL : lkOk K Z W V) {g t : Nat} (ht : t < 12) (hk : K t < 14) (hF : ∀ u ms, u < 12 → K u < 14 → msOk ms → msOk (wA m K Z W V g u ms).2 ∧ ms.length ≤ (wA m K Z W V g u ms).2.length ∧ (wA m K Z W V g u ms).1.length + 122 * ms.length ≤ 122 * (wA m K Z W V g u ms).2.length + 2) : ∀ n j ms, j + n = Z t → msOk ms → msOk (ceB (wA m K Z W V g) (W t) (V t) n j ms).2 ∧ ms.length ≤ (ceB (wA m K Z W V g) (W t) (V t) n j ms).2.length ∧ (ceB (wA m K Z W V g) (W t) (V t) n j ms).1.length + 122 * ms.length ≤ 122 * (ceB (wA m K Z W V g) (W t) (V t) n j ms).2.length + 10 * n := by
  intro n
  induction n with
  | zero => intro j ms hj hm; exact ⟨hm, Nat.le_refl _, by show 0 + _ ≤ _; exact Nat.le_of_eq (by rw [Nat.zero_add]; rfl)⟩
  | succ n ih =>
    intro j ms hj hm
    obtain ⟨hz, hc⟩ := hL t ht hk
    obtain ⟨h1, h2, h3⟩ := hc j (by omega)
    unfold ceB
    by_cases c : W t j = 10
    · rw [if_pos c]
      obtain ⟨u, u1, u2, u3⟩ := h2 c
      obtain ⟨a1, a2, a3⟩ := hF (lC (V t j)) ms (by rw [u2, lC_N (by omega)]; exact u1) (by rw [u2, lC_N (by omega)]; exact u3) hm
      obtain ⟨b1, b2, b3⟩ := ih (j + 1) _ (by omega) a1
      refine ⟨b1, Nat.le_trans a2 b2, ?_⟩
      dsimp only
      rw [List.length_append]
      omega
    · rw [if_neg c]
      obtain ⟨b1, b2, b3⟩ := ih (j + 1) ms (by omega) hm
      refine ⟨b1, b2, ?_⟩
      have := elB_len (W t j) (V t j)
      dsimp only
      rw [List.length_append]
      omega
theorem wA_inv (hL : lkOk K Z W V) : ∀ g t ms, t < 12 → K t < 14 → msOk ms → msOk (wA m K Z W V g t ms).2 ∧ ms.length ≤ (wA m K Z W V g t ms).2.length ∧ (wA m K Z W V g t ms).1.length + 122 * ms.length ≤ 122 * (wA m K Z W V g t ms).2.length + 2 ∧ (t ∉ ms → (wA m K Z W V g t ms).1.length + 122 * ms.length ≤ 122 * (wA m K Z W V g t ms).2.length) := by
  intro g
  induction g with
  | zero =>
    intro t ms ht hk hm
    unfold wA
    by_cases c : t ∈ ms
    · rw [if_pos c]
      exact ⟨hm, Nat.le_refl _, by show 2 + 122 * ms.length ≤ 122 * ms.length + 2; omega, fun q => absurd c q⟩
    · rw [if_neg c]
      exact ⟨hm, Nat.le_refl _, by show 0 + 122 * ms.length ≤ 122 * ms.length + 2; omega, fun q => by show 0 + 122 * ms.length ≤ 122 * ms.length; omega⟩
  | succ g ih =>
    intro t ms ht hk hm
    unfold wA
    by_cases c : t ∈ ms
    · rw [if_pos c]
      exact ⟨hm, Nat.le_refl _, by show 2 + 122 * ms.length ≤ 122 * ms.length + 2; omega, fun q => absurd c q⟩
    · rw [if_neg c]
      have hm' := ms_add hm ht c
      have el : (ms ++ [t]).length = ms.length + 1 := by simp
      obtain ⟨hz, hc⟩ := hL t ht hk
      by_cases c8 : K t < 8
      · rw [if_pos c8]
        have := prB_len m c8 hz (V t)
        exact ⟨hm', by show _ ≤ (ms ++ [t]).length; omega, by show _ ≤ 122 * (ms ++ [t]).length + 2; rw [el]; show (prB m (K t) (Z t) (V t)).length + _ ≤ _; omega, fun _ => by show _ ≤ 122 * (ms ++ [t]).length; rw [el]; show (prB m (K t) (Z t) (V t)).length + _ ≤ _; omega⟩
      · rw [if_neg c8]
        obtain ⟨b1, b2, b3⟩ := ce_inv (m := m) hL ht hk (fun u ms a b c => ⟨(ih u ms a b c).1, (ih u ms a b c).2.1, (ih u ms a b c).2.2.1⟩) (Z t) 0 (ms ++ [t]) (by omega) hm'
        rw [el] at b2 b3
        have q : ([nI (16 + K t), nI (Z t)] ++ (ceB (wA m K Z W V g) (W t) (V t) (Z t) 0 (ms ++ [t])).1).length + 122 * ms.length ≤ 122 * (ceB (wA m K Z W V g) (W t) (V t) (Z t) 0 (ms ++ [t])).2.length := by
          rw [List.length_append, List.length_cons, List.length_cons, List.length_nil]
          omega
        exact ⟨b1, Nat.le_trans (Nat.le_succ _) b2, Nat.le_trans q (Nat.le_add_right _ _), fun _ => q⟩
end
-- the numbers of the arrays met
def nuM (M : xM) (w : Nat) (ms : List Nat) : xM := stI (flI M (w + 1) 0 12 (fun t => if t ∈ ms then nI (ms.idxOf t) else -1)) w 3 (nI ms.length)
theorem sT_nuM (M : xM) (w : Nat) (ms : List Nat) : sT M (nuM M w ms) := ⟨rfl, rfl, rfl⟩
theorem nuM_L (M : xM) (w : Nat) (ms : List Nat) : mL (nuM M w ms) = mL M := rfl
theorem nuM_I (M : xM) {w x : Nat} (ms : List Nat) (h1 : x ≠ w) (h2 : x ≠ w + 1) : mI (nuM M w ms) x = mI M x := by
  unfold nuM
  rw [mI_stI_c _ _ _ h1, mI_flI_ne _ h2]
theorem nuM_f (M : xM) (w : Nat) (ms : List Nat) : mI (nuM M w ms) w 3 = nI ms.length := mI_stI_v _ _ _ _
theorem nuM_o (M : xM) (w : Nat) (ms : List Nat) {k : Nat} (h : k ≠ 3) : mI (nuM M w ms) w k = mI M w k := by
  unfold nuM
  rw [mI_stI_o _ _ _ _ h, mI_flI_ne _ (show w ≠ w + 1 by omega)]
theorem nuM_a (M : xM) (w : Nat) (ms : List Nat) {t : Nat} (h : t < 12) : mI (nuM M w ms) (w + 1) t = if t ∈ ms then nI (ms.idxOf t) else -1 := by
  unfold nuM
  rw [mI_stI_c _ _ _ (show w + 1 ≠ w by omega)]
  have := mI_flI_at M (a := w + 1) (lo := 0) (g := fun t => if t ∈ ms then nI (ms.idxOf t) else -1) h
  rw [Nat.zero_add] at this
  exact this
theorem nuM_s (M : xM) {w so t : Nat} (ms : List Nat) (l : List Int32) (hw : so + 1 < w) (hn : t ∉ ms) (ht : t < 12) : stI (stI (emM (nuM M w ms) so 1 (so + 1) l) (w + 1) t (nI ms.length)) w 3 (nI (ms.length + 1)) = emM (nuM M w (ms ++ [t])) so 1 (so + 1) l := by
  have e : xup (xup (xup (xfl (xup (xfl M.1 (w + 1) 0 12 (fun t => if t ∈ ms then nI ((ms).idxOf t) else -1)) w 3 (nI ms.length)) (so + 1) 0 l.length (fun k => l.getD k 0)) so 1 (nI l.length)) (w + 1) t (nI ms.length)) w 3 (nI (ms.length + 1)) = xup (xfl (xup (xfl M.1 (w + 1) 0 12 (fun y => if y ∈ (ms ++ [t]) then nI ((ms ++ [t]).idxOf y) else -1)) w 3 (nI (ms ++ [t]).length)) (so + 1) 0 l.length (fun k => l.getD k 0)) so 1 (nI l.length) := by
    funext p q
    rw [show (ms ++ [t]).length = ms.length + 1 by simp]
    unfold xup xfl
    by_cases c1 : p = w
    · subst c1
      by_cases c2 : q = 3
      · simp [c2, show ¬ p = so by omega, show ¬ p = so + 1 by omega]
      · simp [c2, show ¬ p = so by omega, show ¬ p = so + 1 by omega]
    · by_cases c3 : p = w + 1
      · subst c3
        simp only [c1, false_and, if_false, true_and, show ¬ w + 1 = so by omega, show ¬ w + 1 = so + 1 by omega, if_true, Nat.zero_add, Nat.zero_le, Nat.sub_zero]
        by_cases c4 : q = t
        · subst c4
          rw [if_pos rfl, if_pos ht]
          have e1 : q ∈ ms ++ [q] := by simp
          rw [if_pos e1]
          congr 1
          rw [List.idxOf_append, if_neg hn]
          simp
        · rw [if_neg c4]
          by_cases c5 : q < 12
          · rw [if_pos c5, if_pos c5]
            by_cases c6 : q ∈ ms
            · have e1 : q ∈ ms ++ [t] := List.mem_append_left _ c6
              rw [if_pos c6, if_pos e1, List.idxOf_append, if_pos c6]
            · have e1 : q ∉ ms ++ [t] := by simp [c6, c4]
              rw [if_neg c6, if_neg e1]
          · rw [if_neg c5, if_neg c5]
      · simp [c1, c3]
  exact Prod.ext e rfl
