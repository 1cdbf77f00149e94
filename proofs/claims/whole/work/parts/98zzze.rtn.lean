-- WHAT IS WRITTEN IS READ BACK: numbers, words
def atB (B : Nat → Nat) (L p : Nat) (l : List Int32) : Prop := p + l.length ≤ L ∧ ∀ i, i < l.length → nI (B (p + i)) = l.getD i 0
theorem atB.hd {B : Nat → Nat} {L p : Nat} {x : Int32} {l : List Int32} (h : atB B L p (x :: l)) : p < L ∧ nI (B p) = x ∧ atB B L (p + 1) l := by
  obtain ⟨h1, h2⟩ := h
  rw [List.length_cons] at h1
  refine ⟨by omega, h2 0 (by rw [List.length_cons]; omega), by omega, fun i hi => ?_⟩
  have := h2 (i + 1) (by rw [List.length_cons]; omega)
  rw [show p + (i + 1) = p + 1 + i by omega] at this
  exact this
theorem atB.app {B : Nat → Nat} {L : Nat} {l2 : List Int32} : ∀ {l1 : List Int32} {p : Nat}, atB B L p (l1 ++ l2) → atB B L p l1 ∧ atB B L (p + l1.length) l2
  | [], p, h => ⟨⟨Nat.le_trans (Nat.le_add_right _ _) h.1, fun i hi => absurd hi (Nat.not_lt_zero i)⟩, h⟩
  | x :: l1, p, h => by
    obtain ⟨h1, h2, h3⟩ := atB.hd (l := l1 ++ l2) h
    obtain ⟨g1, g2⟩ := atB.app h3
    rw [show p + 1 + l1.length = p + (x :: l1).length by rw [List.length_cons]; omega] at g2
    refine ⟨⟨?_, fun i hi => ?_⟩, g2⟩
    · have := g1.1; rw [List.length_cons]; omega
    · cases i with
      | zero => exact h2
      | succ i =>
        have := g1.2 i (by rw [List.length_cons] at hi; omega)
        rw [show p + 1 + i = p + (i + 1) by omega] at this
        exact this
theorem atB_n {B : Nat → Nat} {L p b : Nat} (hB : ∀ i, i < L → B i < 256) (hp : p < L) (hb : b < 2 ^ 31) (h : nI (B p) = nI b) : B p = b := nI_inj (by have := hB p hp; omega) hb h
theorem bt8_N {x j : Nat} (hx : x < 2 ^ 64) (hj : j < 8) : bt8 (lN x) j = nI (x / 256 ^ j % 256) := by
  unfold bt8
  have q := sshr_mask (X := x) (R := 8 * j) (w := 8) hx (by omega) (by omega)
  obtain ⟨Y, hY, e⟩ := wb_of (lN x >>> ((Int32.toInt64 (nI (8 * j))) &&& 63))
  rw [e] at q ⊢
  rw [g_mask (s := 8) rfl (by decide) hY] at q
  have q2 := congrArg lC q
  rw [lC_N (Nat.lt_of_le_of_lt (Nat.mod_le _ _) hY), lC_N (Nat.lt_of_lt_of_le (Nat.mod_lt _ (by decide)) (by decide))] at q2
  rw [l2i_N]
  show nI Y &&& nI 255 = _
  rw [nx_and, show Y &&& 255 = Y % 256 from Nat.and_two_pow_sub_one_eq_mod Y 8]
  refine congrArg nI ?_
  rw [show 256 ^ j = 2 ^ (8 * j) from by rw [Nat.pow_mul]]
  exact q2
theorem valB_x {B : Nat → Nat} {L x : Nat} (hB : ∀ i, i < L → B i < 256) (hx : x < 2 ^ 64) : ∀ {n p : Nat}, n ≤ 8 → atB B L p (byB (lN x) n) → valB B n p 0 = x % 256 ^ n
  | 0, _, _, _ => by rw [Nat.pow_zero, Nat.mod_one]; rfl
  | n + 1, p, hn, h => by
    obtain ⟨h1, h2, h3⟩ := atB.hd (l := byB (lN x) n) h
    rw [bt8_N hx (by omega)] at h2
    have e := atB_n hB h1 (Nat.lt_of_lt_of_le (Nat.mod_lt _ (by decide)) (by decide)) h2
    show valB B n (p + 1) (0 * 256 + B p) = _
    rw [valB_a, valB_x hB hx (by omega) h3, e, Nat.zero_mul, Nat.zero_add, Nat.pow_succ, Nat.mod_mul, Nat.mul_comm, Nat.add_comm]
theorem rt_sg {B : Nat → Nat} {L x n p : Nat} (hB : ∀ i, i < L → B i < 256) (hx : x < 2 ^ 64) (hn : n ≤ 7) (hr : -((128 * 256 ^ n : Nat) : Int) ≤ (lN x).toInt ∧ (lN x).toInt < ((128 * 256 ^ n : Nat) : Int)) (h : atB B L p (byB (lN x) (n + 1))) : sgB B p (n + 1) = lN x := by
  have hv := valB_x hB hx (by omega) h
  have hl := h.1
  rw [byB_len] at hl
  have hb : ∀ i, i < p + (n + 1) → p ≤ i → B i < 256 := fun i h1 _ => hB i (by omega)
  obtain ⟨a1, a2⟩ := val_hi hb
  rw [sg_v hn hb]
  have hp : 256 ^ (n + 1) = 256 * 256 ^ n := by rw [Nat.pow_succ, Nat.mul_comm]
  have h64 : 256 ^ (n + 1) * 256 ^ (7 - n) = 2 ^ 64 := by
    rw [← Nat.pow_add, show n + 1 + (7 - n) = 8 by omega]
  have hr1 : 0 < 256 ^ (7 - n) := Nat.pow_pos (by decide)
  have hq2 : 256 ^ n ≤ 2 ^ 56 := by
    have : 256 ^ n ≤ 256 ^ 7 := Nat.pow_le_pow_right (by decide) hn
    exact this
  rw [lN_ti hx] at hr
  rw [hp] at hv h64 ⊢
  generalize 256 ^ n = q at *
  generalize 256 ^ (7 - n) = r at *
  generalize valB B (n + 1) p 0 = v at *
  by_cases c : x < 2 ^ 63
  · rw [if_pos c] at hr
    rw [Nat.mod_eq_of_lt (show x < 256 * q by omega)] at hv
    have hbp : B p < 128 := by
      rcases Nat.lt_or_ge (B p) 128 with z | z
      · exact z
      · have := a2 z; omega
    rw [if_pos hbp, hv]
  · rw [if_neg c] at hr
    have e1 : x = 256 * q * (r - 1) + (x - (2 ^ 64 - 256 * q)) := by
      rw [Nat.mul_sub, Nat.mul_one, h64]
      omega
    have e2 : x % (256 * q) = x - (2 ^ 64 - 256 * q) := by
      conv => lhs; rw [e1]
      rw [Nat.mul_add_mod, Nat.mod_eq_of_lt (by omega)]
    rw [e2] at hv
    have hbp : ¬ B p < 128 := fun z => by have := a1 z; omega
    rw [if_neg hbp, hv]
    exact congrArg lN (by omega)
theorem nuC_w (k : Nat) (v : Int64) : (nuC k v).length = wid2 k := by
  unfold nuC wid2
  split
  · exact byB_len _ _
  · rw [List.length_cons, byB_len]
theorem fit_i {k : Nat} {v : Int64} (hk : k < 8) (h : okN k v) : sX0_fits (nI k) v = true := (fits_eq hk v).trans h.1
theorem rt_int {B : Nat → Nat} {L k p : Nat} {v : Int64} (hB : ∀ i, i < L → B i < 256) (hk : k < 6) (ho : okN k v) (h : atB B L p (byB v (wdK k))) : numV B k p = some v := by
  have hl := h.1
  rw [byB_len] at hl
  have hb : ∀ i, i < p + wdK k → p ≤ i → B i < 256 := fun i h1 _ => hB i (by omega)
  rw [numV_I hk hb]
  have hf := fit_i (by omega) ho
  obtain ⟨x, hx, rfl⟩ := wb_of v
  have hti := lN_ti hx
  have hcs : k = 0 ∨ k = 1 ∨ k = 2 ∨ k = 3 ∨ k = 4 ∨ k = 5 := by omega
  rcases hcs with rfl | rfl | rfl | rfl | rfl | rfl
  · rw [ft1 0 1 (by decide) (Or.inl ⟨rfl, rfl, rfl⟩)] at hf
    have hf := of_decide_eq_true hf
    have hx1 : x ≤ 1 := by
      rw [hti] at hf
      split at hf <;> omega
    have hv := valB_x hB hx (n := 1) (by decide) h
    have ev : valB B 1 p 0 = B p := by show 0 * 256 + B p = B p; omega
    rw [ev, Nat.mod_eq_of_lt (by omega)] at hv
    rw [if_neg (by omega)]
    have er : refI B 0 p = lN (valB B 1 p 0) := by
      unfold refI
      rw [if_neg (by omega)]
      exact folB_v 1 p 0 hb
    rw [er, ev, hv]
  · rw [ft1 (-128) 127 (by decide) (Or.inr (Or.inl ⟨rfl, rfl, rfl⟩))] at hf
    have hf := of_decide_eq_true hf
    rw [if_neg (by omega), refI_s (by decide) (by decide)]
    exact congrArg some (rt_sg (n := 0) hB hx (by decide) (by omega) h)
  · rw [ft1 0 65535 (by decide) (Or.inr (Or.inr (Or.inl ⟨rfl, rfl, rfl⟩)))] at hf
    have hf := of_decide_eq_true hf
    have hx1 : x ≤ 65535 := by
      rw [hti] at hf
      split at hf <;> omega
    have hv := valB_x hB hx (n := 2) (by decide) h
    rw [Nat.mod_eq_of_lt (by omega)] at hv
    rw [if_neg (by omega)]
    have er : refI B 2 p = lN (valB B 2 p 0) := by
      unfold refI
      rw [if_neg (by omega)]
      exact folB_v 2 p 0 hb
    rw [er, hv]
  · rw [ft1 (-32768) 32767 (by decide) (Or.inr (Or.inr (Or.inr (Or.inl ⟨rfl, rfl, rfl⟩))))] at hf
    have hf := of_decide_eq_true hf
    rw [if_neg (by omega), refI_s (by decide) (by decide)]
    exact congrArg some (rt_sg (n := 1) hB hx (by decide) (by omega) h)
  · rw [ft1 (-2147483648) 2147483647 (by decide) (Or.inr (Or.inr (Or.inr (Or.inr ⟨rfl, rfl, rfl⟩))))] at hf
    have hf := of_decide_eq_true hf
    rw [if_neg (by omega), refI_s (by decide) (by decide)]
    exact congrArg some (rt_sg (n := 3) hB hx (by decide) (by omega) h)
  · rw [if_neg (by omega), refI_s (by decide) (by decide)]
    have g1 := Int64.le_toInt (lN x)
    have g2 := Int64.toInt_lt (lN x)
    exact congrArg some (rt_sg (n := 7) hB hx (by decide) (by omega) h)
-- words
theorem dig_b : ∀ f c, c < 27 ^ f → c < 27 ^ dig f c ∧ (0 < c → 0 < dig f c) ∧ (wdg f c = true → ∀ b, b < dig f c → ¬ c / 27 ^ b % 27 = 0)
  | 0, c, h => by
    have : c = 0 := by rw [Nat.pow_zero] at h; omega
    subst this
    exact ⟨by decide, fun z => absurd z (by decide), fun _ b hb => absurd hb (Nat.not_lt_zero b)⟩
  | f + 1, c, h => by
    by_cases c0 : c = 0
    · subst c0
      have e : dig (f + 1) 0 = 0 := if_pos rfl
      rw [e]
      exact ⟨by decide, fun z => absurd z (by decide), fun _ b hb => absurd hb (Nat.not_lt_zero b)⟩
    · have e : dig (f + 1) c = dig f (c / 27) + 1 := if_neg c0
      have h' : c / 27 < 27 ^ f := by
        rw [Nat.pow_succ] at h
        exact Nat.div_lt_of_lt_mul (by rw [Nat.mul_comm]; exact h)
      obtain ⟨g1, g2, g3⟩ := dig_b f (c / 27) h'
      rw [e]
      refine ⟨?_, fun _ => by omega, fun hw b hb => ?_⟩
      · rw [Nat.pow_succ]
        omega
      · by_cases cz : c % 27 = 0
        · rw [wdg_z (by omega) cz] at hw; cases hw
        · rw [wdg_s (by omega) cz] at hw
          cases b with
          | zero => rw [Nat.pow_zero, Nat.div_one]; exact cz
          | succ b =>
            have := g3 hw b (by omega)
            rw [Nat.div_div_eq_div_mul] at this
            rw [Nat.pow_succ, Nat.mul_comm]
            exact this
theorem rt_let {B : Nat → Nat} {L c : Nat} (hB : ∀ i, i < L → B i < 256) : ∀ {n p : Nat}, (∀ b, b < n → ¬ c / 27 ^ b % 27 = 0) → atB B L p (leB c n) → pLet B L n (c / 27 ^ n) p = .ok (lN c, p + n)
  | 0, p, _, _ => by rw [Nat.pow_zero, Nat.div_one]; rfl
  | n + 1, p, hz, h => by
    obtain ⟨h1, h2, h3⟩ := atB.hd (l := leB c n) h
    have hm := Nat.mod_lt (c / 27 ^ n) (show 0 < 27 by decide)
    have hn0 := hz n (by omega)
    have e := atB_n hB h1 (by omega) h2
    unfold pLet
    rw [if_pos ⟨h1, by omega, by omega⟩, e]
    have e2 : 27 * (c / 27 ^ (n + 1)) + (96 + c / 27 ^ n % 27 - 96) = c / 27 ^ n := by
      rw [Nat.pow_succ, ← Nat.div_div_eq_div_mul]
      omega
    rw [e2, rt_let hB (fun b hb => hz b (by omega)) h3, show p + 1 + n = p + (n + 1) by omega]
theorem rt_word {B : Nat → Nat} {L p : Nat} {v : Int64} (hB : ∀ i, i < L → B i < 256) (hw : wrd v = true) (h : atB B L p (woB (lC v))) : pWord B L p = .ok (v, p + (woB (lC v)).length) := by
  obtain ⟨c, c0, c7, rfl⟩ := wrd_c hw
  have hc63 : c < 2 ^ 63 := Nat.lt_trans c7 (by decide)
  rw [lC_N (Nat.lt_trans c7 (by decide))] at h ⊢
  have hwd : wdg 7 c = true := by
    unfold wrd at hw
    rw [pf_lI hc63, Int.toNat_natCast, Bool.and_eq_true] at hw
    exact hw.2
  obtain ⟨g1, g2, g3⟩ := dig_b 7 c c7
  have hd7 := dig_le 7 c
  have hd0 := g2 c0
  obtain ⟨h1, h2, h3⟩ := atB.hd (l := leB c (dig 7 c)) h
  have e := atB_n hB h1 (by omega) h2
  unfold pWord
  rw [if_pos ⟨h1, by omega, by omega⟩, e]
  have q := rt_let hB (g3 hwd) h3
  rw [Nat.div_eq_of_lt g1] at q
  rw [q]
  have el : (woB c).length = dig 7 c + 1 := by unfold woB; rw [List.length_cons, leB_len]
  rw [el, show p + 1 + dig 7 c = p + (dig 7 c + 1) by omega]
