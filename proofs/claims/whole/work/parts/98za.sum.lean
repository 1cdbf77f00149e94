-- SUMS OF FLOATS AND DOUBLES
/-- a multiple of 1/8, below 2^(b-3) -/
def M8 (f : FP.Core.Fmt) (b : Nat) (d : FP.Core.Datum) : Prop := ∃ s c q n, d = .fin s c q ∧ FP.Core.fits f d ∧ c * 2 ^ (q - min q (-3)).toNat = n * 2 ^ (-3 - min q (-3)).toNat ∧ n < 2 ^ b ∧ (c = 0 → s = false)
theorem M8.mono {f : FP.Core.Fmt} {a b : Nat} {d : FP.Core.Datum} (h : M8 f a d) (hab : a ≤ b) : M8 f b d := by
  obtain ⟨s, c, q, n, h1, h2, h3, h4, h5⟩ := h
  exact ⟨s, c, q, n, h1, h2, h3, Nat.lt_of_lt_of_le h4 (Nat.pow_le_pow_right (by decide) hab), h5⟩
theorem un_ext {c n : Nat} {q E : Int} (h : c * 2 ^ (q - min q (-3)).toNat = n * 2 ^ (-3 - min q (-3)).toNat) (hE : E ≤ min q (-3)) : c * 2 ^ (q - E).toNat = n * 2 ^ (-3 - E).toNat := by
  have e1 : (q - E).toNat = (q - min q (-3)).toNat + (min q (-3) - E).toNat := by omega
  have e2 : (-3 - E).toNat = (-3 - min q (-3)).toNat + (min q (-3) - E).toNat := by omega
  rw [e1, e2, Nat.pow_add, Nat.pow_add, ← Nat.mul_assoc, ← Nat.mul_assoc, h]
theorem M8_add {f : FP.Core.Fmt} (hf : FP.Core.Good f) (hq1 : f.qmin + f.p ≤ -3) (hq2 : 100 ≤ f.qmax) {a : Nat} (ha : a ≤ 95) {x y : FP.Core.Datum} (hx : M8 f a x) (hy : M8 f a y) : M8 f (a + 2) (FP.Core.round f (FP.Core.exactSum x y)) := by
  obtain ⟨s, c, q, n, rfl, fx, ex, nx, zx⟩ := hx
  obtain ⟨t, d, r, m, rfl, fy, ey, ny, zy⟩ := hy
  show M8 f (a + 2) (FP.Core.round f (.fin (FP.Core.sumSign s t (FP.Core.sumUnits s c q t d r (min q r))) (FP.Core.sumUnits s c q t d r (min q r)).natAbs (min q r)))
  have hE1 := un_ext ex (E := min (min q r) (-3)) (by omega)
  have hE2 := un_ext ey (E := min (min q r) (-3)) (by omega)
  have hsum : FP.Core.sumUnits s c q t d r (min q r) * ((2 ^ (min q r - min (min q r) (-3)).toNat : Nat) : Int) = (FP.Core.signed s n + FP.Core.signed t m) * ((2 ^ (-3 - min (min q r) (-3)).toNat : Nat) : Int) := by
    unfold FP.Core.sumUnits FP.Core.inUnits
    rw [Int.add_mul, Int.add_mul, ← FP.Core.signed_mul, ← FP.Core.signed_mul, ← FP.Core.signed_mul, ← FP.Core.signed_mul, Nat.mul_assoc c, Nat.mul_assoc d, ← Nat.pow_add, ← Nat.pow_add, ← hE1, ← hE2]
    congr 3
    · congr 2
      omega
    · congr 2
      omega
  have hN : (FP.Core.signed s n + FP.Core.signed t m).natAbs < 2 ^ (a + 1) := by
    rw [Nat.pow_succ]
    have e1 : (FP.Core.signed s n).natAbs = n := FP.Core.natAbs_signed s n
    have e2 : (FP.Core.signed t m).natAbs = m := FP.Core.natAbs_signed t m
    omega
  have hpE := Nat.two_pow_pos (min q r - min (min q r) (-3)).toNat
  have hpF := Nat.two_pow_pos (-3 - min (min q r) (-3)).toNat
  have habs : (FP.Core.sumUnits s c q t d r (min q r)).natAbs * 2 ^ (min q r - min (min q r) (-3)).toNat = (FP.Core.signed s n + FP.Core.signed t m).natAbs * 2 ^ (-3 - min (min q r) (-3)).toNat := by
    have := congrArg Int.natAbs hsum
    rw [Int.natAbs_mul, Int.natAbs_mul, Int.natAbs_natCast, Int.natAbs_natCast] at this
    exact this
  generalize hS : FP.Core.sumUnits s c q t d r (min q r) = S at hsum habs ⊢
  generalize hNN : FP.Core.signed s n + FP.Core.signed t m = N at hsum habs hN
  by_cases g : N = 0
  · have hS0 : S = 0 := by
      rw [g, Int.natAbs_zero, Nat.zero_mul] at habs
      rcases Nat.mul_eq_zero.mp habs with h | h
      · omega
      · omega
    have hsg : FP.Core.sumSign s t S = false := by
      rw [hS0]
      unfold FP.Core.sumSign
      rw [if_pos rfl]
      cases s
      · rfl
      · cases t
        · rfl
        · exfalso
          have e : -(n : Int) + -(m : Int) = 0 := by rw [g] at hNN; exact hNN
          have hn0 : n = 0 := by omega
          rw [hn0, Nat.zero_mul] at ex
          rcases Nat.mul_eq_zero.mp ex with h | h
          · cases zx h
          · have := Nat.two_pow_pos (q - min q (-3)).toNat; omega
    rw [hsg, hS0]
    have e : FP.Core.round f (.fin false (0 : Int).natAbs (min q r)) = .fin false 0 f.qmin := by
      show FP.Core.roundRatio f false 0 1 (min q r) = _
      unfold FP.Core.roundRatio
      rw [if_pos rfl]
    rw [e]
    exact ⟨false, 0, f.qmin, 0, rfl, FP.Core.zero_fits hf false, by rw [Nat.zero_mul, Nat.zero_mul], Nat.two_pow_pos _, fun _ => rfl⟩
  · have hNp : 0 < N.natAbs := by omega
    have hcg : FP.Core.round f (.fin (FP.Core.sumSign s t S) S.natAbs (min q r)) = FP.Core.round f (.fin (FP.Core.sumSign s t S) N.natAbs (-3)) := by
      refine FP.Core.roundRatio_congr (by decide) (by decide) ?_
      rw [Nat.mul_one, Nat.mul_one]
      by_cases z : min q r ≤ -3
      · rw [show min (min q r) (-3) = min q r by omega, show (min q r - min q r).toNat = 0 by omega, Nat.pow_zero, Nat.mul_one] at habs
        rw [show (min q r - -3).toNat = 0 by omega, Nat.pow_zero, Nat.mul_one, habs]
      · rw [show min (min q r) (-3) = -3 by omega, show (-3 - -3 : Int).toNat = 0 by omega, Nat.pow_zero, Nat.mul_one] at habs
        rw [show (-3 - min q r).toNat = 0 by omega, Nat.pow_zero, Nat.mul_one, habs]
    rw [hcg]
    have hL : N.natAbs.log2 < a + 1 := (Nat.log2_lt (by omega)).mpr hN
    obtain ⟨c', r', g1, g2, g3, g4, g5, g6⟩ := rnd_any hf (s := FP.Core.sumSign s t S) (n := N.natAbs) (q := -3) hNp hq1 (by omega)
    have hfit := FP.Core.round_fits hf (.fin (FP.Core.sumSign s t S) N.natAbs (-3))
    rw [g1] at hfit ⊢
    have htp := FP.Core.tails_pos f
    have hp2 : 2 ≤ f.p := hf.2
    by_cases z : -3 ≤ r'
    · refine ⟨_, c', r', c' * 2 ^ (r' + 3).toNat, rfl, hfit, ?_, ?_, fun h => by omega⟩
      · rw [show min r' (-3) = -3 by omega, show (r' - -3).toNat = (r' + 3).toNat by omega, show (-3 - -3 : Int).toNat = 0 by omega, Nat.pow_zero, Nat.mul_one]
      · have hr : (r' + 3).toNat + f.p ≤ a + 2 := by
          rcases g5 with g5 | ⟨g5, -⟩ <;> omega
        calc c' * 2 ^ (r' + 3).toNat < 2 ^ f.p * 2 ^ (r' + 3).toNat := Nat.mul_lt_mul_of_pos_right g3 (Nat.two_pow_pos _)
          _ = 2 ^ ((r' + 3).toNat + f.p) := by rw [← Nat.pow_add, Nat.add_comm]
          _ ≤ 2 ^ (a + 2) := Nat.pow_le_pow_right (by decide) hr
    · have g6 : c' = N.natAbs * 2 ^ (-3 - r').toNat := by
        rcases g6 with g6 | g6
        · exact absurd g6 z
        · exact g6
      refine ⟨_, c', r', N.natAbs, rfl, hfit, ?_, Nat.lt_of_lt_of_le hN (Nat.pow_le_pow_right (by decide) (by omega)), fun h => by omega⟩
      rw [show min r' (-3) = r' by omega, show (r' - r').toNat = 0 by omega, Nat.pow_zero, Nat.mul_one]
      exact g6
theorem M8_facts {f : FP.Core.Fmt} {b : Nat} {s : Bool} {c : Nat} {q : Int} (hf : FP.Core.Good f) (hp : f.p ≤ 53) (hq : f.qmin ≤ -120) (h : M8 f b (.fin s c q)) : (c = 0 ∧ s = false ∧ q = f.qmin) ∨ (f.tails ≤ c ∧ c < 2 ^ f.p ∧ -3 - q < f.p ∧ q + 3 + ((f.p : Int) - 1) < b ∨ False) ∧ (q < -3 → c % 2 ^ (-3 - q).toNat = 0) := by
  obtain ⟨s', c', q', n, e, hfit, h3, h4, h5⟩ := h
  cases e
  by_cases c0 : c = 0
  · refine Or.inl ⟨c0, h5 c0, ?_⟩
    rw [c0] at hfit
    exact FP.Core.fits_zero_q hf hfit
  · obtain ⟨f1, f2, f3, f4⟩ := hfit
    have hp2 : 2 ≤ f.p := hf.2
    have ht : f.tails = 2 ^ (f.p - 1) := rfl
    have h53 : 2 ^ f.p ≤ 2 ^ 53 := Nat.pow_le_pow_right (by decide) hp
    by_cases z : q < -3
    · rw [show min q (-3) = q by omega, show (q - q).toNat = 0 by omega, Nat.pow_zero, Nat.mul_one] at h3
      have hn : 0 < n := by
        rcases Nat.eq_zero_or_pos n with k | k
        · rw [k, Nat.zero_mul] at h3; omega
        · exact k
      have hlt : (-3 - q).toNat < f.p := by
        have : 2 ^ (-3 - q).toNat ≤ c := by rw [h3]; exact Nat.le_mul_of_pos_left _ hn
        exact (Nat.pow_lt_pow_iff_right (by decide : 1 < 2)).mp (Nat.lt_of_le_of_lt this f1)
      refine Or.inr ⟨Or.inl ⟨?_, f1, by omega, ?_⟩, fun _ => by rw [h3, Nat.mul_mod_left]⟩
      · rcases f4 with f4 | f4
        · omega
        · exact f4
      · have ht1 : 2 ^ (f.p - 1) ≤ n * 2 ^ (-3 - q).toNat := by
          rw [← h3, ← ht]
          rcases f4 with f4 | f4
          · omega
          · exact f4
        have h6 : 2 ^ (f.p - 1) < 2 ^ (b + (-3 - q).toNat) := by
          rw [Nat.pow_add]
          exact Nat.lt_of_le_of_lt ht1 (Nat.mul_lt_mul_of_pos_right h4 (Nat.two_pow_pos _))
        have := (Nat.pow_lt_pow_iff_right (by decide : 1 < 2)).mp h6
        omega
    · rw [show min q (-3) = -3 by omega, show (-3 - -3 : Int).toNat = 0 by omega, Nat.pow_zero, Nat.mul_one, show (q - -3).toNat = (q + 3).toNat by omega] at h3
      have ft : f.tails ≤ c := by
        rcases f4 with f4 | f4
        · omega
        · exact f4
      refine Or.inr ⟨Or.inl ⟨ft, f1, by omega, ?_⟩, fun h => absurd h z⟩
      have h6 : 2 ^ (f.p - 1 + (q + 3).toNat) < 2 ^ b := by
        rw [Nat.pow_add, ← ht]
        exact Nat.lt_of_le_of_lt (Nat.mul_le_mul_right _ ft) (by rw [h3]; exact h4)
      have := (Nat.pow_lt_pow_iff_right (by decide : 1 < 2)).mp h6
      omega
theorem M8_64 {b : Nat} {u : UInt64} (hb : b ≤ 91) (h : M8 FP.Core.b64 b (FP.Core.val64 u)) : isD 7 u ∧ vf_n64 u := by
  obtain ⟨s, c, q, n, e, -⟩ := id h
  rw [e] at h
  refine ⟨?_, n64_of e⟩
  rcases M8_facts FP.Core.good_b64 (by decide) (by rw [q64.1]; decide) h with ⟨h1, h2, h3⟩ | ⟨h1 | h1, h2⟩
  · refine Or.inl ?_
    refine FP.Core.val64_inj (by rw [e]; intro z; cases z) ?_
    rw [e, h1, h2, h3, k0, q64.1]
  · obtain ⟨g1, g2, g3, g4⟩ := h1
    have g3 : -3 - q < (53 : Nat) := g3
    have g4 : q + 3 + (((53 : Nat) : Int) - 1) < b := g4
    exact Or.inr ⟨s, c, q, ⟨g1, g2, by omega, by omega, h2, fun z => absurd z (by decide)⟩, nd_of e⟩
  · exact h1.elim
theorem M8_32 {b : Nat} {u : UInt32} (hb : b ≤ 91) (h : M8 FP.Core.b32 b (FP.Core.val32 u)) : isD 6 (FP.f2d u) ∧ vf_n32 u ∧ vf_n64 (FP.f2d u) := by
  obtain ⟨s, c, q, n, e, -⟩ := id h
  rw [e] at h
  rcases M8_facts FP.Core.good_b32 (by decide) (by rw [q32.1]; decide) h with ⟨h1, h2, h3⟩ | ⟨h1 | h1, h2⟩
  · have e0 : u = FP.fconst0 := by
      refine FP.Core.val32_inj (by rw [e]; intro z; cases z) ?_
      rw [e, h1, h2, h3]
      exact FP.Core.val32_fconst0.symm
    rw [e0, l2f_0.2.1]
    exact ⟨Or.inl rfl, l2f_0.2.2.2, n64_0⟩
  · obtain ⟨g1, g2, g3, g4⟩ := h1
    have g3 : -3 - q < (24 : Nat) := g3
    have g4 : q + 3 + (((24 : Nat) : Int) - 1) < b := g4
    have hn : nrf c q := ⟨g1, g2, by omega, by omega⟩
    rw [nf_of e, f2d_nf hn]
    exact ⟨Or.inr ⟨s, _, _, okD_f g1 g2 (by omega) (by omega) h2, rfl⟩, hn.n s, (nrf_nrm hn).n s⟩
  · exact h1.elim
theorem M8_of {f : FP.Core.Fmt} {s : Bool} {c : Nat} {q : Int} {p : Nat} (hfit : FP.Core.fits f (.fin s c q)) (hc : c < 2 ^ p) (h0 : c ≠ 0) (hd : q < -3 → c % 2 ^ (-3 - q).toNat = 0) (hb : q + 3 + p ≤ 67) (hp : p ≤ 67) : M8 f 67 (.fin s c q) := by
  by_cases z : q < -3
  · refine ⟨s, c, q, c / 2 ^ (-3 - q).toNat, rfl, hfit, ?_, ?_, fun h => absurd h h0⟩
    · rw [show min q (-3) = q by omega, show (q - q).toNat = 0 by omega, Nat.pow_zero, Nat.mul_one]
      exact (Nat.div_mul_cancel (Nat.dvd_of_mod_eq_zero (hd z))).symm
    · exact Nat.lt_of_le_of_lt (Nat.div_le_self _ _) (Nat.lt_of_lt_of_le hc (Nat.pow_le_pow_right (by decide) hp))
  · refine ⟨s, c, q, c * 2 ^ (q + 3).toNat, rfl, hfit, ?_, ?_, fun h => absurd h h0⟩
    · rw [show min q (-3) = -3 by omega, show (-3 - -3 : Int).toNat = 0 by omega, Nat.pow_zero, Nat.mul_one, show (q - -3).toNat = (q + 3).toNat by omega]
    · calc c * 2 ^ (q + 3).toNat < 2 ^ p * 2 ^ (q + 3).toNat := Nat.mul_lt_mul_of_pos_right hc (Nat.two_pow_pos _)
        _ = 2 ^ (p + (q + 3).toNat) := by rw [← Nat.pow_add]
        _ ≤ 2 ^ 67 := Nat.pow_le_pow_right (by decide) (by omega)
theorem M8_0 {f : FP.Core.Fmt} (hf : FP.Core.Good f) : M8 f 67 (.fin false 0 f.qmin) := ⟨false, 0, f.qmin, 0, rfl, FP.Core.zero_fits hf false, by rw [Nat.zero_mul, Nat.zero_mul], by decide, fun _ => rfl⟩
theorem el7 {u : UInt64} (h : isD 7 u) (hs : smD u) : M8 FP.Core.b64 67 (FP.Core.val64 u) := by
  rcases h with rfl | ⟨s, c, r, ho, rfl⟩
  · rw [k0]
    have := M8_0 FP.Core.good_b64
    rw [q64.1] at this
    exact this
  · have hn := okD_nrm0 ho
    have hsm := hs s c r (hn.val s)
    rw [hn.val s]
    have h1 := ho.1
    refine M8_of (p := 53) (hn.fits s) ho.2.1 (by omega) ho.2.2.2.2.1 ?_ (by decide)
    rcases hsm with z | z | z <;> omega
theorem el6 {u : UInt64} (h : isD 6 u) (hs : smD u) : M8 FP.Core.b32 67 (FP.Core.val32 (FP.d2f u)) ∧ vf_n32 (FP.d2f u) := by
  rcases h with rfl | ⟨s, c, r, ho, rfl⟩
  · have e : FP.d2f FP.dconst0 = FP.fconst0 := by decide +kernel
    rw [e, show FP.Core.val32 FP.fconst0 = _ from FP.Core.val32_fconst0]
    exact ⟨M8_0 FP.Core.good_b32, l2f_0.2.2.2⟩
  · have hn := okD_nrm0 ho
    have hsm := hs s c r (hn.val s)
    obtain ⟨h1, h2, h3, h4, h5, h6⟩ := ho
    have h6 : c % 536870912 = 0 := h6 rfl
    have ec : c = c / 2 ^ 29 * 2 ^ 29 := by
      show c = c / 536870912 * 536870912
      omega
    have hc1 : 2 ^ 23 ≤ c / 2 ^ 29 := by show 8388608 ≤ c / 536870912; omega
    have hc2 : c / 2 ^ 29 < 2 ^ 24 := by show c / 536870912 < 16777216; omega
    have hr : r ≤ 11 := by rcases hsm with z | z | z <;> omega
    have hnf : nrf (c / 2 ^ 29) (r + 29) := ⟨hc1, hc2, by omega, by omega⟩
    have e : FP.d2f (nd s c r) = nf s (c / 2 ^ 29) (r + 29) := by
      have := d2f_nd (s := s) hnf
      rw [← ec, show r + 29 - 29 = r by omega] at this
      exact this
    rw [e, hnf.val s]
    refine ⟨M8_of (p := 24) (hnf.fits s) hc2 (by omega) (fun z => ?_) ?_ (by decide), hnf.n s⟩
    · have := h5 (by omega)
      rw [show (-3 - r).toNat = (-3 - (r + 29)).toNat + 29 by omega, ec, Nat.pow_add, Nat.mul_mod_mul_right] at this
      rcases Nat.mul_eq_zero.mp this with k | k
      · exact k
      · exact absurd k (by decide)
    · rcases hsm with z | z | z <;> omega
noncomputable def unk (k : Nat) (v : Int64) : UInt64 := Classical.epsilon (fun u => isD k u ∧ smD u ∧ v = fb k u)
theorem unk_s {k : Nat} {v : Int64} (h : okF k v) : isD k (unk k v) ∧ smD (unk k v) ∧ v = fb k (unk k v) := Classical.epsilon_spec h
def fS (D : Nat → UInt32) : Nat → Nat → UInt32 → UInt32
  | 0, _, x => x
  | n + 1, i, x => fS D n (i + 1) (FP.fadd x (D i))
def dS (D : Nat → UInt64) : Nat → Nat → UInt64 → UInt64
  | 0, _, x => x
  | n + 1, i, x => dS D n (i + 1) (FP.dadd x (D i))
def wS (D : Nat → Int64) : Nat → Nat → Int64 → Int64
  | 0, _, x => x
  | n + 1, i, x => wS D n (i + 1) (x + D i)
theorem fadd_M8 {i : Nat} (hi : i ≤ 11) {x y : UInt32} (hx : M8 FP.Core.b32 (67 + 2 * i) (FP.Core.val32 x)) (hy : M8 FP.Core.b32 67 (FP.Core.val32 y)) : M8 FP.Core.b32 (67 + 2 * (i + 1)) (FP.Core.val32 (FP.fadd x y)) ∧ vf_n32 (FP.fadd x y) := by
  have h : M8 FP.Core.b32 (67 + 2 * i + 2) (FP.Core.val32 (FP.fadd x y)) := by
    show M8 FP.Core.b32 (67 + 2 * i + 2) (FP.Core.val32 (FP.Core.fadd x y))
    rw [FP.Core.val32_fadd]
    exact M8_add FP.Core.good_b32 (by rw [q32.1]; decide) (by rw [q32.2]; decide) (by omega) hx (hy.mono (by omega))
  exact ⟨h, (M8_32 (by omega) h).2.1⟩
theorem dadd_M8 {i : Nat} (hi : i ≤ 11) {x y : UInt64} (hx : M8 FP.Core.b64 (67 + 2 * i) (FP.Core.val64 x)) (hy : M8 FP.Core.b64 67 (FP.Core.val64 y)) : M8 FP.Core.b64 (67 + 2 * (i + 1)) (FP.Core.val64 (FP.dadd x y)) ∧ vf_n64 (FP.dadd x y) := by
  have h : M8 FP.Core.b64 (67 + 2 * i + 2) (FP.Core.val64 (FP.dadd x y)) := by
    show M8 FP.Core.b64 (67 + 2 * i + 2) (FP.Core.val64 (FP.Core.dadd x y))
    rw [FP.Core.val64_dadd]
    exact M8_add FP.Core.good_b64 (by rw [q64.1]; decide) (by rw [q64.2]; decide) (by omega) hx (hy.mono (by omega))
  exact ⟨h, (M8_64 (by omega) h).2⟩
theorem M8_f0 : M8 FP.Core.b32 (67 + 2 * 0) (FP.Core.val32 FP.fconst0) := by
  rw [show FP.Core.val32 FP.fconst0 = _ from FP.Core.val32_fconst0]
  exact M8_0 FP.Core.good_b32
theorem M8_d0 : M8 FP.Core.b64 (67 + 2 * 0) (FP.Core.val64 FP.dconst0) := by
  rw [show FP.Core.val64 FP.dconst0 = _ from FP.Core.val64_dconst0]
  exact M8_0 FP.Core.good_b64
theorem i32_add (x v : Int64) : (x.toInt32.toInt64 + v).toInt32 = (x + v).toInt32 := by
  rw [Int64.toInt32_add, Int64.toInt32_add, Int32.toInt32_toInt64]
