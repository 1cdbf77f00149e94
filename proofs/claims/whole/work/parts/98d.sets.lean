-- SETS OF SLOTS
def SB (x : Int32) (p : Nat → Bool) : Prop := ∀ k, k < 32 → bt x k = (decide (k < 12) && p k)
theorem SB.eq {x y : Int32} {p q : Nat → Bool} (hx : SB x p) (hy : SB y q) (h : ∀ k, k < 12 → p k = q k) : x = y := by
  apply b_ext
  intro k hk
  rw [hx k hk, hy k hk]
  by_cases c : k < 12
  · rw [h k c]
  · rw [decide_eq_false c]; rfl
theorem SB.co {x : Int32} {p q : Nat → Bool} (hx : SB x p) (h : ∀ k, k < 12 → p k = q k) : SB x q := by
  intro k hk
  rw [hx k hk]
  by_cases c : k < 12
  · rw [h k c]
  · rw [decide_eq_false c]; rfl
theorem SB.z : SB 0 (fun _ => false) := fun k _ => by rw [b_0, Bool.and_false]
theorem SB.or {x y : Int32} {p q : Nat → Bool} (hx : SB x p) (hy : SB y q) : SB (x ||| y) (fun k => p k || q k) := fun k hk => by
  rw [b_or, hx k hk, hy k hk, Bool.and_or_distrib_left]
theorem SB.one {t : Nat} (ht : t < 12) : SB ((1 : Int32) <<< (nI t &&& 31)) (fun k => decide (k = t)) := by
  intro k hk
  exact (by decide +kernel : ∀ t, t < 12 → ∀ k, k < 32 → bt ((1 : Int32) <<< (nI t &&& 31)) k = (decide (k < 12) && decide (k = t))) t ht k hk
theorem b_one {i : Nat} (hi : i < 32) : bt 1 i = decide (i = 0) := (by decide +kernel : ∀ i, i < 32 → bt 1 i = decide (i = 0)) i hi
theorem SB.bit {x : Int32} {p : Nat → Bool} (hx : SB x p) {t : Nat} (ht : t < 12) : (x >>> (nI t &&& 31)) &&& 1 = bz (p t) := by
  apply b_ext
  intro i hi
  rw [b_and, b_sshr t (by omega) x hi, b_one hi]
  by_cases c : i = 0
  · subst c
    rw [Nat.add_zero, if_pos (by omega), hx t (by omega), decide_eq_true ht]
    cases p t <;> decide
  · rw [decide_eq_false c, Bool.and_false]
    cases p t
    · exact (b_0 i).symm
    · show false = bt 1 i
      rw [b_one hi, decide_eq_false c]
theorem SB.has {x : Int32} {p : Nat → Bool} (hx : SB x p) {t : Nat} (ht : t < 12) : sX5_has x (nI t) = p t := by
  unfold sX5_has
  rw [hx.bit ht]
  cases p t <;> rfl
theorem SB.add {x : Int32} {p : Nat → Bool} (hx : SB x p) {t : Nat} (ht : t < 12) (h : p t = false) : SB (x + ((1 : Int32) <<< (nI t &&& 31))) (fun k => p k || decide (k = t)) := by
  have hz : x &&& ((1 : Int32) <<< (nI t &&& 31)) = 0 := by
    apply b_ext
    intro i hi
    rw [b_and, hx i hi, SB.one ht i hi, b_0]
    by_cases c : i = t
    · subst c; rw [h]; simp
    · show (decide (i < 12) && p i && (decide (i < 12) && decide (i = t))) = false
      rw [decide_eq_false c]; simp
  have e : x + ((1 : Int32) <<< (nI t &&& 31)) = x ||| ((1 : Int32) <<< (nI t &&& 31)) := by
    apply Int32.toBitVec_inj.mp
    rw [Int32.toBitVec_add, Int32.toBitVec_or]
    apply BitVec.add_eq_or_of_and_eq_zero
    rw [← Int32.toBitVec_and, hz]
    rfl
  rw [e]
  exact hx.or (SB.one ht)
-- any, cnt
theorem any_iff (p : Nat → Bool) : ∀ n i, any p n i = true ↔ ∃ j, i ≤ j ∧ j < i + n ∧ p j = true
  | 0, i => by
    constructor
    · intro h; cases h
    · rintro ⟨j, h1, h2, -⟩; omega
  | n + 1, i => by
    show (p i || any p n (i + 1)) = true ↔ _
    rw [Bool.or_eq_true, any_iff p n (i + 1)]
    constructor
    · rintro (h | ⟨j, h1, h2, h3⟩)
      · exact ⟨i, Nat.le_refl _, by omega, h⟩
      · exact ⟨j, by omega, by omega, h3⟩
    · rintro ⟨j, h1, h2, h3⟩
      by_cases c : j = i
      · subst c; exact Or.inl h3
      · exact Or.inr ⟨j, by omega, by omega, h3⟩
theorem any_co {p q : Nat → Bool} {n i : Nat} (h : ∀ j, i ≤ j → j < i + n → p j = q j) : any p n i = any q n i := by
  apply Bool.eq_iff_iff.mpr
  rw [any_iff, any_iff]
  constructor
  · rintro ⟨j, h1, h2, h3⟩; exact ⟨j, h1, h2, by rw [← h j h1 h2]; exact h3⟩
  · rintro ⟨j, h1, h2, h3⟩; exact ⟨j, h1, h2, by rw [h j h1 h2]; exact h3⟩
theorem cnt_k (p : Nat → Bool) : ∀ n i k, cnt p n i k = k + cnt p n i 0
  | 0, _, k => rfl
  | n + 1, i, k => by
    show cnt p n (i + 1) (if p i = true then k + 1 else k) = k + cnt p n (i + 1) (if p i = true then 0 + 1 else 0)
    rw [cnt_k p n (i + 1) (if p i = true then k + 1 else k), cnt_k p n (i + 1) (if p i = true then 0 + 1 else 0)]
    split <;> omega
theorem cnt_s (p : Nat → Bool) (n i : Nat) : cnt p (n + 1) i 0 = (if p i = true then 1 else 0) + cnt p n (i + 1) 0 := by
  show cnt p n (i + 1) (if p i = true then 0 + 1 else 0) = _
  rw [cnt_k]
theorem cnt_le (p : Nat → Bool) : ∀ n i, cnt p n i 0 ≤ n
  | 0, _ => Nat.le_refl _
  | n + 1, i => by
    rw [cnt_s]
    have := cnt_le p n (i + 1)
    split <;> omega
theorem cnt_mono {p q : Nat → Bool} : ∀ n i, (∀ j, i ≤ j → j < i + n → p j = true → q j = true) → cnt p n i 0 ≤ cnt q n i 0
  | 0, _, _ => Nat.le_refl _
  | n + 1, i, h => by
    rw [cnt_s, cnt_s]
    have h1 := cnt_mono n (i + 1) (fun j a b => h j (by omega) (by omega))
    have h2 := h i (Nat.le_refl _) (by omega)
    by_cases c : p i = true
    · rw [if_pos c, if_pos (h2 c)]; omega
    · rw [if_neg c]; omega
theorem cnt_lt {p q : Nat → Bool} : ∀ n i, (∀ j, i ≤ j → j < i + n → p j = true → q j = true) → (∃ j, i ≤ j ∧ j < i + n ∧ p j = false ∧ q j = true) → cnt p n i 0 < cnt q n i 0
  | 0, _, _, ⟨j, h1, h2, _⟩ => by omega
  | n + 1, i, h, ⟨j, h1, h2, h3, h4⟩ => by
    rw [cnt_s, cnt_s]
    by_cases c : j = i
    · subst c
      have h5 := cnt_mono n (j + 1) (fun j a b => h j (by omega) (by omega))
      rw [h3, h4, if_neg (by decide), if_pos rfl]
      omega
    · have h5 := cnt_lt n (i + 1) (fun j a b => h j (by omega) (by omega)) ⟨j, by omega, by omega, h3, h4⟩
      have h6 := h i (Nat.le_refl _) (by omega)
      by_cases d : p i = true
      · rw [if_pos d, if_pos (h6 d)]; omega
      · rw [if_neg d]; omega
-- links
def img (L : Nat → Nat → Bool) (p : Nat → Bool) (b : Nat) : Bool := any (fun a => p a && L a b) 12 0
theorem img_iff {L : Nat → Nat → Bool} {p : Nat → Bool} {b : Nat} : img L p b = true ↔ ∃ a, a < 12 ∧ p a = true ∧ L a b = true := by
  unfold img
  rw [any_iff]
  constructor
  · rintro ⟨j, -, h2, h3⟩
    rw [Bool.and_eq_true] at h3
    exact ⟨j, by omega, h3⟩
  · rintro ⟨j, h1, h2, h3⟩
    exact ⟨j, by omega, by omega, by rw [h2, h3]; rfl⟩
def clo (L : Nat → Nat → Bool) (S : Nat → Bool) : Prop := ∀ a b, a < 12 → b < 12 → S a = true → L a b = true → S b = true
def hgP (L : Nat → Nat → Bool) : Nat → (Nat → Bool) → Nat → Bool
  | 0, p => p
  | n + 1, p => hgP L n (fun b => p b || img L p b)
theorem hgP_ge {L : Nat → Nat → Bool} : ∀ n p b, p b = true → hgP L n p b = true
  | 0, _, _, h => h
  | n + 1, p, b, h => hgP_ge n _ b (by show (p b || _) = true; rw [h]; rfl)
theorem hgP_le {L : Nat → Nat → Bool} {S : Nat → Bool} (hS : clo L S) : ∀ n p, (∀ b, b < 12 → p b = true → S b = true) → ∀ b, b < 12 → hgP L n p b = true → S b = true
  | 0, _, h, b, hb, hh => h b hb hh
  | n + 1, p, h, b, hb, hh => by
    refine hgP_le hS n _ (fun c hc hq => ?_) b hb hh
    rcases Bool.or_eq_true _ _ |>.mp hq with q | q
    · exact h c hc q
    · obtain ⟨a, a1, a2, a3⟩ := img_iff.mp q
      exact hS a c a1 hc (h a a1 a2) a3
theorem hgP_card {L : Nat → Nat → Bool} : ∀ n p, clo L (hgP L n p) ∨ n + cnt p 12 0 0 ≤ cnt (hgP L n p) 12 0 0
  | 0, p => Or.inr (by show 0 + cnt p 12 0 0 ≤ cnt p 12 0 0; omega)
  | n + 1, p => by
    by_cases c : ∃ b, b < 12 ∧ p b = false ∧ img L p b = true
    · obtain ⟨b, b1, b2, b3⟩ := c
      have h1 : cnt p 12 0 0 < cnt (fun b => p b || img L p b) 12 0 0 := cnt_lt 12 0 (fun j _ _ h => by show (p j || _) = true; rw [h]; rfl) ⟨b, by omega, by omega, b2, by show (p b || _) = true; rw [b3, Bool.or_true]⟩
      rcases hgP_card n (fun b => p b || img L p b) with h | h
      · exact Or.inl h
      · exact Or.inr (by show n + 1 + _ ≤ cnt (hgP L n _) 12 0 0; omega)
    · have hp : clo L p := by
        intro a b ha hb h1 h2
        cases h : p b with
        | true => rfl
        | false => exact absurd ⟨b, hb, h, img_iff.mpr ⟨a, ha, h1, h2⟩⟩ c
      refine Or.inl (fun a b ha hb h1 h2 => ?_)
      have g1 := hgP_le hp (n + 1) p (fun _ _ h => h) a ha h1
      exact hgP_ge (n + 1) p b (hp a b ha hb g1 h2)
theorem hgP_clo {L : Nat → Nat → Bool} {p : Nat → Bool} {t : Nat} (ht : t < 12) (h : p t = true) : clo L (hgP L 12 p) := by
  rcases hgP_card (L := L) 12 p with q | q
  · exact q
  · exfalso
    have h1 := cnt_le (hgP L 12 p) 12 0
    have h2 : 0 < cnt p 12 0 0 := by
      have := cnt_lt (p := fun _ => false) (q := p) 12 0 (fun _ _ _ h => by cases h) ⟨t, by omega, by omega, rfl, h⟩
      omega
    omega
-- the class's sets
theorem l32 {u : Nat} (hu : u < 12) : (lN u).toInt32 = nI u := (by decide +kernel : ∀ u, u < 12 → (lN u).toInt32 = nI u) u hu
theorem lN_in {a b : Nat} (ha : a < 12) (hb : b < 12) (h : lN a = lN b) : a = b := (by decide +kernel : ∀ a, a < 12 → ∀ b, b < 12 → lN a = lN b → a = b) a ha b hb h
theorem lkF_SB {M : xM} {a : Nat} : ∀ n i w p, SB w p → (∀ j, i ≤ j → j < i + n → mI M (a + 1) j = 10 → ∃ u, u < 12 ∧ mL M (a + 2) j = lN u) → SB (lkF M a n i w) (fun k => p k || any (fun j => decide (mI M (a + 1) j = 10) && decide (mL M (a + 2) j = lN k)) n i)
  | 0, i, w, p, h, _ => by
    refine h.co (fun k _ => ?_)
    show p k = (p k || false)
    rw [Bool.or_false]
  | n + 1, i, w, p, h, hl => by
    by_cases c : mI M (a + 1) i = 10
    · obtain ⟨u, u1, u2⟩ := hl i (Nat.le_refl _) (by omega) c
      rw [lkF_t n w c, u2, l32 u1]
      refine (lkF_SB n (i + 1) _ _ (h.or (SB.one u1)) (fun j a b => hl j (by omega) (by omega))).co (fun k hk => ?_)
      show (p k || decide (k = u) || any _ n (i + 1)) = (p k || (decide (mI M (a + 1) i = 10) && decide (mL M (a + 2) i = lN k) || any _ n (i + 1)))
      rw [decide_eq_true c, u2, Bool.true_and, Bool.or_assoc]
      congr 2
      apply decide_eq_decide.mpr
      exact ⟨fun e => by rw [e], fun e => (lN_in u1 hk e).symm⟩
    · rw [lkF_f n w c]
      refine (lkF_SB n (i + 1) _ _ h (fun j a b => hl j (by omega) (by omega))).co (fun k hk => ?_)
      show (p k || any _ n (i + 1)) = (p k || (decide (mI M (a + 1) i = 10) && decide (mL M (a + 2) i = lN k) || any _ n (i + 1)))
      rw [decide_eq_false c, Bool.false_and, Bool.false_or]
theorem laF_SB {M : xM} {Z : Nat → Nat} {L : Nat → Nat → Bool} (hL : ∀ t, t < 12 → SB (lkF M (54 + 3 * t) (Z t) 0 0) (L t)) {s : Int32} {p : Nat → Bool} (hs : SB s p) : ∀ n t w q, t + n ≤ 12 → SB w q → SB (laF M Z s n t w) (fun b => q b || any (fun a => p a && L a b) n t)
  | 0, t, w, q, _, h => by
    refine h.co (fun k _ => ?_)
    show q k = (q k || false)
    rw [Bool.or_false]
  | n + 1, t, w, q, ht, h => by
    have e := hs.has (t := t) (by omega)
    cases c : p t with
    | true =>
      rw [laF_t n w (e.trans c)]
      refine (laF_SB hL hs n (t + 1) _ _ (by omega) (h.or (hL t (by omega)))).co (fun k hk => ?_)
      show (q k || L t k || any _ n (t + 1)) = (q k || (p t && L t k || any _ n (t + 1)))
      rw [c, Bool.true_and, Bool.or_assoc]
    | false =>
      rw [laF_f n w (e.trans c)]
      refine (laF_SB hL hs n (t + 1) _ _ (by omega) h).co (fun k hk => ?_)
      show (q k || any _ n (t + 1)) = (q k || (p t && L t k || any _ n (t + 1)))
      rw [c, Bool.false_and, Bool.false_or]
theorem laF_img {M : xM} {Z : Nat → Nat} {L : Nat → Nat → Bool} (hL : ∀ t, t < 12 → SB (lkF M (54 + 3 * t) (Z t) 0 0) (L t)) {s : Int32} {p : Nat → Bool} (hs : SB s p) : SB (laF M Z s 12 0 0) (img L p) :=
  (laF_SB hL hs 12 0 0 _ (by omega) SB.z).co (fun k _ => rfl)
theorem hgF_SB {M : xM} {Z : Nat → Nat} {L : Nat → Nat → Bool} (hL : ∀ t, t < 12 → SB (lkF M (54 + 3 * t) (Z t) 0 0) (L t)) : ∀ n x p, SB x p → SB (hgF M Z n x) (hgP L n p)
  | 0, _, _, h => h
  | n + 1, x, p, h => hgF_SB hL n _ _ (h.or (laF_img hL h))
-- the reference's sets
def szR (M : xM) (t : Nat) : Nat := (mI M 2 t).toNatClampNeg
theorem szR_eq {M : xM} (hZ : LenR M) {t : Nat} (ht : t < 24) : mI M 2 t = nI (szR M t) ∧ szR M t ≤ 12 := by
  obtain ⟨z, hz, e⟩ := hZ t ht
  unfold szR
  rw [e, nI_clamp (by omega)]
  exact ⟨rfl, hz⟩
def stR0 (M : xM) (a b : Nat) : Bool := any (rLk M a (lN b)) (szR M a) 0
def lkR (M : xM) (a b : Nat) : Bool := sX6_isRow M (nI a) && (sX6_isRow M (nI b) && stR0 M a b)
theorem nIL {b : Nat} (h : b < 2147483648) : (nI b).toInt64 = lN b := by
  apply Int64.toInt_inj.mp
  rw [Int32.toInt_toInt64, nI_toInt (by omega), pk_lT (by omega)]
theorem lkR_1 {M : xM} {a b : Nat} (h : bz (sX6_isRow M (nI a)) = 0) : lkR M a b = false := by unfold lkR; rw [bz_0.mp h]; rfl
theorem lkR_2 {M : xM} {a b : Nat} (h : bz (sX6_isRow M (nI b)) = 0) : lkR M a b = false := by unfold lkR; rw [bz_0.mp h, Bool.false_and, Bool.and_false]
theorem lkR_3 {M : xM} {a b : Nat} (h : bz (stR0 M a b) = 0) : lkR M a b = false := by unfold lkR; rw [bz_0.mp h, Bool.and_false, Bool.and_false]
theorem lkR_t {M : xM} {a b : Nat} (h1 : ¬ bz (sX6_isRow M (nI a)) = 0) (h2 : ¬ bz (sX6_isRow M (nI b)) = 0) (h3 : ¬ bz (stR0 M a b) = 0) : lkR M a b = true := by unfold lkR; rw [bz_n0.mp h1, bz_n0.mp h2, bz_n0.mp h3]; rfl
def hC (M : xM) (a b : Nat) (w : Int32) : Bool := decide ((w >>> (nI a &&& 31)) &&& 1 = 1) && (decide ((w >>> (nI b &&& 31)) &&& 1 = 0) && lkR M a b)
def inR (M : xM) (a : Nat) : Nat → Nat → Int32 × Int32 → Int32 × Int32
  | 0, _, s => s
  | n + 1, b, s => inR M a n (b + 1) (if hC M a b s.1 = true then (s.1 + ((1 : Int32) <<< (nI b &&& 31)), 1) else s)
theorem inR_t {M : xM} {a b : Nat} (n : Nat) {w m : Int32} (h : hC M a b w = true) : inR M a (n + 1) b (w, m) = inR M a n (b + 1) (w + ((1 : Int32) <<< (nI b &&& 31)), 1) := by
  show inR M a n (b + 1) (if hC M a b w = true then _ else (w, m)) = _
  rw [if_pos h]
theorem inR_f {M : xM} {a b : Nat} (n : Nat) {w m : Int32} (h : hC M a b w = false) : inR M a (n + 1) b (w, m) = inR M a n (b + 1) (w, m) := by
  show inR M a n (b + 1) (if hC M a b w = true then _ else (w, m)) = _
  rw [if_neg (by rw [h]; decide)]
def miR (M : xM) : Nat → Nat → Int32 × Int32 → Int32 × Int32
  | 0, _, s => s
  | n + 1, a, s => miR M n (a + 1) (inR M a 12 0 s)
theorem lp_hanging_in {d : Nat} (hd : 1 ≤ d) {M : xM} (hT : TR M) (hZ : LenR M) (a : Nat) (ha : a < 12) (x1 : Int32) {post : Option Value → xM → Prop} : ∀ (n i : Nat) (w m : Int32), i + n = 12 → AW (fX6_hanging d) 95 [(5, .int (nI 12)), (4, .int (nI a)), (3, .int ((inR M a n i (w, m)).2)), (2, .int ((inR M a n i (w, m)).1)), (0, .ref 0), (1, .int x1)] [] M 0 0 post → AW (fX6_hanging d) 25 [(5, .int (nI i)), (4, .int (nI a)), (3, .int m), (2, .int w), (0, .ref 0), (1, .int x1)] [] M 0 0 post := by
  intro n
  induction n with
  | zero =>
    intro i w m hi hk
    obtain rfl : i = 12 := by omega
    refine aw_iload dX6_hanging_25 0 rfl ?_
    refine aw_bipush (v := 12) dX6_hanging_27 (by decide) ?_
    refine aw_icmp_geN 12 12 95 dX6_hanging_29 (by decide) rfl rfl (by omega) (by omega) (fun c1 => ?_) (fun c1 => absurd (by omega) c1)
    exact hk
  | succ n ih =>
    intro i w m hi hk
    refine aw_iload dX6_hanging_25 0 rfl ?_
    refine aw_bipush (v := 12) dX6_hanging_27 (by decide) ?_
    refine aw_icmp_geN i 12 95 dX6_hanging_29 (by decide) rfl rfl (by omega) (by omega) (fun c1 => absurd c1 (by omega)) (fun c1 => ?_)
    refine aw_iload_n dX6_hanging_32 3 rfl ?_
    refine aw_iload dX6_hanging_33 1 rfl ?_
    refine aw_ishr dX6_hanging_35 ?_
    refine aw_iconst (v := 1) dX6_hanging_36 (by decide) ?_
    refine aw_iand dX6_hanging_37 ?_
    refine aw_iconst (v := 1) dX6_hanging_38 (by decide) ?_
    refine aw_icmp_ne 89 dX6_hanging_39 (by decide) (fun c2 => ?_) (fun c2 => ?_)
    · refine aw_iincN i 1 [(5, .int (nI (i + 1))), (4, .int (nI a)), (3, .int m), (2, .int w), (0, .ref 0), (1, .int x1)] dX6_hanging_89 0 rfl rfl rfl (Nat.le_of_ble_eq_true rfl) rfl ?_
      refine aw_goto 25 dX6_hanging_92 (by decide) ?_
      rw [inR_f n (show hC M a i w = false by unfold hC; rw [decide_eq_false c2]; rfl)] at hk
      exact ih (i + 1) w m (by omega) hk
    · refine aw_iload_n dX6_hanging_42 3 rfl ?_
      refine aw_iload dX6_hanging_43 0 rfl ?_
      refine aw_ishr dX6_hanging_45 ?_
      refine aw_iconst (v := 1) dX6_hanging_46 (by decide) ?_
      refine aw_iand dX6_hanging_47 ?_
      refine aw_if_ne 89 dX6_hanging_48 (by decide) (fun c3 => ?_) (fun c3 => ?_)
      · refine aw_iincN i 1 [(5, .int (nI (i + 1))), (4, .int (nI a)), (3, .int m), (2, .int w), (0, .ref 0), (1, .int x1)] dX6_hanging_89 0 rfl rfl rfl (Nat.le_of_ble_eq_true rfl) rfl ?_
        refine aw_goto 25 dX6_hanging_92 (by decide) ?_
        rw [inR_f n (show hC M a i w = false by unfold hC; rw [decide_eq_false (p := ((w >>> (nI i &&& 31)) &&& 1 = 0)) c3, Bool.false_and, Bool.and_false])] at hk
        exact ih (i + 1) w m (by omega) hk
      · refine aw_aload_n dX6_hanging_51 4 rfl ?_
        refine aw_iload dX6_hanging_52 1 rfl ?_
        refine aw_callVi [.int (nI a)] [] (sp_X6_isRow (d := d - 1) (by omega) (nI a) hT (vp_in_nI (by omega) (by decide))) dX6_hanging_54 ml_X6_166 im_X6_isRow (hT.s 0 (by decide)) (hT.n 0 (by decide)) rfl rfl (dl1 (d := d) (by omega)) rfl rfl (Nat.le_of_ble_eq_true rfl) rfl rfl (Nat.zero_le _) (Nat.zero_le _) ?_
        refine aw_if_eq 89 dX6_hanging_57 (by decide) (fun c4 => ?_) (fun c4 => ?_)
        · refine aw_iincN i 1 [(5, .int (nI (i + 1))), (4, .int (nI a)), (3, .int m), (2, .int w), (0, .ref 0), (1, .int x1)] dX6_hanging_89 0 rfl rfl rfl (Nat.le_of_ble_eq_true rfl) rfl ?_
          refine aw_goto 25 dX6_hanging_92 (by decide) ?_
          rw [inR_f n (show hC M a i w = false by unfold hC; rw [lkR_1 c4, Bool.and_false, Bool.and_false])] at hk
          exact ih (i + 1) w m (by omega) hk
        · refine aw_aload_n dX6_hanging_60 4 rfl ?_
          refine aw_iload dX6_hanging_61 0 rfl ?_
          refine aw_callVi [.int (nI i)] [] (sp_X6_isRow (d := d - 1) (by omega) (nI i) hT (vp_in_nI (by omega) (by decide))) dX6_hanging_63 ml_X6_166 im_X6_isRow (hT.s 0 (by decide)) (hT.n 0 (by decide)) rfl rfl (dl1 (d := d) (by omega)) rfl rfl (Nat.le_of_ble_eq_true rfl) rfl rfl (Nat.zero_le _) (Nat.zero_le _) ?_
          refine aw_if_eq 89 dX6_hanging_66 (by decide) (fun c5 => ?_) (fun c5 => ?_)
          · refine aw_iincN i 1 [(5, .int (nI (i + 1))), (4, .int (nI a)), (3, .int m), (2, .int w), (0, .ref 0), (1, .int x1)] dX6_hanging_89 0 rfl rfl rfl (Nat.le_of_ble_eq_true rfl) rfl ?_
            refine aw_goto 25 dX6_hanging_92 (by decide) ?_
            rw [inR_f n (show hC M a i w = false by unfold hC; rw [lkR_2 c5, Bool.and_false, Bool.and_false])] at hk
            exact ih (i + 1) w m (by omega) hk
          · refine aw_aload_n dX6_hanging_69 4 rfl ?_
            refine aw_iload dX6_hanging_70 0 rfl ?_
            refine aw_iload dX6_hanging_72 1 rfl ?_
            refine aw_callVi [.int (nI i), .int (nI a)] [] (show Sp (fX6_stands (d - 1)) [.ref 0, .int (nI i), .int (nI a)] M (dt (some (.int (bz (stR0 M a i)))) M) by have q := sp_X6_stands (d := d - 1) (by omega) (nI i) a (szR M a) hT (by omega) (szR_eq hZ (by omega)).1 (szR_eq hZ (by omega)).2; rw [nIL (by omega)] at q; exact q) dX6_hanging_74 ml_X6_170 im_X6_stands (hT.s 0 (by decide)) (hT.n 0 (by decide)) rfl rfl (dl1 (d := d) (by omega)) rfl rfl (Nat.le_of_ble_eq_true rfl) rfl rfl (Nat.zero_le _) (Nat.zero_le _) ?_
            refine aw_if_eq 89 dX6_hanging_77 (by decide) (fun c6 => ?_) (fun c6 => ?_)
            · refine aw_iincN i 1 [(5, .int (nI (i + 1))), (4, .int (nI a)), (3, .int m), (2, .int w), (0, .ref 0), (1, .int x1)] dX6_hanging_89 0 rfl rfl rfl (Nat.le_of_ble_eq_true rfl) rfl ?_
              refine aw_goto 25 dX6_hanging_92 (by decide) ?_
              rw [inR_f n (show hC M a i w = false by unfold hC; rw [lkR_3 c6, Bool.and_false, Bool.and_false])] at hk
              exact ih (i + 1) w m (by omega) hk
            · refine aw_iload_n dX6_hanging_80 3 rfl ?_
              refine aw_iconst (v := 1) dX6_hanging_81 (by decide) ?_
              refine aw_iload dX6_hanging_82 0 rfl ?_
              refine aw_ishl dX6_hanging_84 ?_
              refine aw_iadd dX6_hanging_85 ?_
              refine aw_istore_n [(2, .int (w + (1 <<< ((nI i) &&& 31)))), (5, .int (nI i)), (4, .int (nI a)), (3, .int m), (0, .ref 0), (1, .int x1)] dX6_hanging_86 (Nat.le_of_ble_eq_true rfl) rfl ?_
              refine aw_iconst (v := 1) dX6_hanging_87 (by decide) ?_
              refine aw_istore_n [(3, .int 1), (2, .int (w + (1 <<< ((nI i) &&& 31)))), (5, .int (nI i)), (4, .int (nI a)), (0, .ref 0), (1, .int x1)] dX6_hanging_88 (Nat.le_of_ble_eq_true rfl) rfl ?_
              refine aw_iincN i 1 [(5, .int (nI (i + 1))), (3, .int 1), (2, .int (w + (1 <<< ((nI i) &&& 31)))), (4, .int (nI a)), (0, .ref 0), (1, .int x1)] dX6_hanging_89 2 rfl rfl rfl (Nat.le_of_ble_eq_true rfl) rfl ?_
              refine aw_goto 25 dX6_hanging_92 (by decide) ?_
              refine aw_sub [0, 3, 1, 2, 4, 5] rfl ?_
              rw [inR_t n (show hC M a i w = true by unfold hC; rw [decide_eq_true c2, decide_eq_true c3, lkR_t c4 c5 c6]; rfl)] at hk
              exact ih (i + 1) _ _ (by omega) hk
theorem lp_hanging_mid {d : Nat} (hd : 1 ≤ d) {M : xM} (hT : TR M) (hZ : LenR M) (x1 : Int32) {post : Option Value → xM → Prop} : ∀ (n i : Nat) (w m : Int32), i + n = 12 → AW (fX6_hanging d) 101 [(4, .int (nI 12)), (3, .int ((miR M n i (w, m)).2)), (2, .int ((miR M n i (w, m)).1)), (0, .ref 0), (1, .int x1)] [] M 0 0 post → AW (fX6_hanging d) 15 [(4, .int (nI i)), (3, .int m), (2, .int w), (0, .ref 0), (1, .int x1)] [] M 0 0 post := by
  intro n
  induction n with
  | zero =>
    intro i w m hi hk
    obtain rfl : i = 12 := by omega
    refine aw_iload dX6_hanging_15 0 rfl ?_
    refine aw_bipush (v := 12) dX6_hanging_17 (by decide) ?_
    refine aw_icmp_geN 12 12 101 dX6_hanging_19 (by decide) rfl rfl (by omega) (by omega) (fun c1 => ?_) (fun c1 => absurd (by omega) c1)
    exact hk
  | succ n ih =>
    intro i w m hi hk
    refine aw_iload dX6_hanging_15 0 rfl ?_
    refine aw_bipush (v := 12) dX6_hanging_17 (by decide) ?_
    refine aw_icmp_geN i 12 101 dX6_hanging_19 (by decide) rfl rfl (by omega) (by omega) (fun c1 => absurd c1 (by omega)) (fun c1 => ?_)
    refine aw_iconst (v := 0) dX6_hanging_22 (by decide) ?_
    refine aw_istore [(5, .int 0), (4, .int (nI i)), (3, .int m), (2, .int w), (0, .ref 0), (1, .int x1)] dX6_hanging_23 (Nat.le_of_ble_eq_true rfl) rfl ?_
    refine lp_hanging_in hd hT hZ i (by omega) x1 12 0 w m (by omega) ?_
    refine aw_iincN i 1 [(4, .int (nI (i + 1))), (5, .int (nI 12)), (3, .int ((inR M i 12 0 (w, m)).2)), (2, .int ((inR M i 12 0 (w, m)).1)), (0, .ref 0), (1, .int x1)] dX6_hanging_95 1 rfl rfl rfl (Nat.le_of_ble_eq_true rfl) rfl ?_
    refine aw_goto 15 dX6_hanging_98 (by decide) ?_
    refine aw_sub [0, 2, 3, 4, 5] rfl ?_
    exact ih (i + 1) _ _ (by omega) hk
-- what a pass does
theorem inR_spec {M : xM} {L : Nat → Nat → Bool} (hL : ∀ a b, a < 12 → b < 12 → lkR M a b = L a b) {S : Nat → Bool} (hS : clo L S) {a : Nat} (ha : a < 12) : ∀ n b w m p, b + n ≤ 12 → SB w p → (∀ k, k < 12 → p k = true → S k = true) → ∃ q, SB (inR M a n b (w, m)).1 q ∧ (∀ k, k < 12 → p k = true → q k = true) ∧ (∀ k, k < 12 → q k = true → S k = true) ∧
    (((inR M a n b (w, m)).2 = m ∧ (inR M a n b (w, m)).1 = w ∧ ∀ j, b ≤ j → j < b + n → p a = true → L a j = true → p j = true) ∨ ((inR M a n b (w, m)).2 = 1 ∧ cnt p 12 0 0 < cnt q 12 0 0))
  | 0, b, w, m, p, _, h, hs => ⟨p, h, fun _ _ h => h, hs, Or.inl ⟨rfl, rfl, fun j h1 h2 => by omega⟩⟩
  | n + 1, b, w, m, p, hb, h, hs => by
    have e1 := h.bit (t := a) ha
    have e2 := h.bit (t := b) (by omega)
    have hh : hC M a b w = (p a && (!p b && L a b)) := by
      unfold hC
      rw [e1, e2, hL a b ha (by omega)]
      cases p a <;> cases p b <;> rfl
    cases c : (p a && (!p b && L a b)) with
    | true =>
      rw [inR_t n (hh.trans c)]
      rw [Bool.and_eq_true, Bool.and_eq_true] at c
      obtain ⟨c1, c2, c3⟩ := c
      have c2 : p b = false := by cases h : p b with
        | true => rw [h] at c2; cases c2
        | false => rfl
      have h2 := h.add (t := b) (by omega) c2
      obtain ⟨q, q1, q2, q3, q4⟩ := inR_spec hL hS ha n (b + 1) _ 1 _ (by omega) h2 (fun k hk z => by
        rcases Bool.or_eq_true _ _ |>.mp z with z | z
        · exact hs k hk z
        · rw [of_decide_eq_true z]; exact hS a b ha (by omega) (hs a ha c1) c3)
      have g1 : cnt p 12 0 0 < cnt (fun k => p k || decide (k = b)) 12 0 0 := cnt_lt 12 0 (fun j _ _ z => by show (p j || _) = true; rw [z]; rfl) ⟨b, by omega, by omega, c2, by show (p b || decide (b = b)) = true; rw [decide_eq_true rfl, Bool.or_true]⟩
      refine ⟨q, q1, fun k hk z => q2 k hk (by show (p k || _) = true; rw [z]; rfl), q3, Or.inr ?_⟩
      rcases q4 with ⟨r1, r2, -⟩ | ⟨r1, r2⟩
      · refine ⟨r1, ?_⟩
        have : cnt (fun k => p k || decide (k = b)) 12 0 0 ≤ cnt q 12 0 0 := cnt_mono 12 0 (fun j _ g z => q2 j (by omega) z)
        omega
      · exact ⟨r1, by omega⟩
    | false =>
      rw [inR_f n (hh.trans c)]
      obtain ⟨q, q1, q2, q3, q4⟩ := inR_spec hL hS ha n (b + 1) w m p (by omega) h hs
      refine ⟨q, q1, q2, q3, ?_⟩
      rcases q4 with ⟨r1, r2, r3⟩ | r
      · refine Or.inl ⟨r1, r2, fun j j1 j2 z1 z2 => ?_⟩
        by_cases g : j = b
        · subst g
          rw [z1, z2] at c
          cases hq : p j with
          | true => rfl
          | false => rw [hq] at c; cases c
        · exact r3 j (by omega) (by omega) z1 z2
      · exact Or.inr r
theorem miR_spec {M : xM} {L : Nat → Nat → Bool} (hL : ∀ a b, a < 12 → b < 12 → lkR M a b = L a b) {S : Nat → Bool} (hS : clo L S) : ∀ n a w m p, a + n ≤ 12 → SB w p → (∀ k, k < 12 → p k = true → S k = true) → ∃ q, SB (miR M n a (w, m)).1 q ∧ (∀ k, k < 12 → p k = true → q k = true) ∧ (∀ k, k < 12 → q k = true → S k = true) ∧
    (((miR M n a (w, m)).2 = m ∧ (miR M n a (w, m)).1 = w ∧ ∀ i j, a ≤ i → i < a + n → j < 12 → p i = true → L i j = true → p j = true) ∨ ((miR M n a (w, m)).2 = 1 ∧ cnt p 12 0 0 < cnt q 12 0 0))
  | 0, a, w, m, p, _, h, hs => ⟨p, h, fun _ _ h => h, hs, Or.inl ⟨rfl, rfl, fun i j h1 h2 => by omega⟩⟩
  | n + 1, a, w, m, p, hb, h, hs => by
    obtain ⟨q, q1, q2, q3, q4⟩ := inR_spec hL hS (a := a) (by omega) 12 0 w m p (by omega) h hs
    have e : miR M (n + 1) a (w, m) = miR M n (a + 1) ((inR M a 12 0 (w, m)).1, (inR M a 12 0 (w, m)).2) := rfl
    rw [e]
    obtain ⟨s, s1, s2, s3, s4⟩ := miR_spec hL hS n (a + 1) _ (inR M a 12 0 (w, m)).2 q (by omega) q1 q3
    refine ⟨s, s1, fun k hk z => s2 k hk (q2 k hk z), s3, ?_⟩
    have cm : cnt p 12 0 0 ≤ cnt q 12 0 0 := cnt_mono 12 0 (fun j _ g z => q2 j (by omega) z)
    have cm2 : cnt q 12 0 0 ≤ cnt s 12 0 0 := cnt_mono 12 0 (fun j _ g z => s2 j (by omega) z)
    rcases q4 with ⟨r1, r2, r3⟩ | ⟨r1, r2⟩
    · rcases s4 with ⟨t1, t2, t3⟩ | ⟨t1, t2⟩
      · refine Or.inl ⟨t1.trans r1, t2.trans r2, fun i j i1 i2 j2 z1 z2 => ?_⟩
        by_cases g : i = a
        · subst g; exact r3 j (by omega) (by omega) z1 z2
        · have hq : ∀ k, k < 12 → q k = p k := fun k hk => by
            have h3 := q1 k (by omega)
            rw [r2, h k (by omega), decide_eq_true hk] at h3
            exact h3.symm
          have := t3 i j (by omega) (by omega) j2 (by rw [hq i (by omega)]; exact z1) z2
          rw [hq j j2] at this
          exact this
      · exact Or.inr ⟨t1, by omega⟩
    · rcases s4 with ⟨t1, t2, t3⟩ | ⟨t1, t2⟩
      · exact Or.inr ⟨t1.trans r1, by omega⟩
      · exact Or.inr ⟨t1, by omega⟩
theorem lp_hanging2 {d : Nat} (hd : 1 ≤ d) {M : xM} (hT : TR M) (hZ : LenR M) (x1 : Int32) {L : Nat → Nat → Bool} (hL : ∀ a b, a < 12 → b < 12 → lkR M a b = L a b) {S p0 : Nat → Bool} (hS : clo L S) (hmin : ∀ q, clo L q → (∀ k, k < 12 → p0 k = true → q k = true) → ∀ k, k < 12 → S k = true → q k = true) {x : Int32} (hx : SB x S) : ∀ (n : Nat) (w : Int32) (p : Nat → Bool), 12 < cnt p 12 0 0 + n → SB w p → (∀ k, k < 12 → p0 k = true → p k = true) → (∀ k, k < 12 → p k = true → S k = true) → AW (fX6_hanging d) 6 [(3, .int 1), (2, .int w), (0, .ref 0), (1, .int x1)] [] M 0 0 (dt (some (.int x)) M) := by
  intro n
  induction n with
  | zero =>
    intro w p h1
    have := cnt_le p 12 0
    omega
  | succ n ih =>
    intro w p h1 h2 h3 h4
    obtain ⟨q, q1, q2, q3, q4⟩ := miR_spec hL hS 12 0 w 0 p (by omega) h2 h4
    refine aw_iload_n dX6_hanging_6 0 rfl ?_
    refine aw_if_eq 104 dX6_hanging_7 (by decide) (fun c1 => absurd c1 (by decide)) (fun c1 => ?_)
    refine aw_iconst (v := 0) dX6_hanging_10 (by decide) ?_
    refine aw_istore_n [(3, .int 0), (2, .int w), (0, .ref 0), (1, .int x1)] dX6_hanging_11 (Nat.le_of_ble_eq_true rfl) rfl ?_
    refine aw_iconst (v := 0) dX6_hanging_12 (by decide) ?_
    refine aw_istore [(4, .int 0), (3, .int 0), (2, .int w), (0, .ref 0), (1, .int x1)] dX6_hanging_13 (Nat.le_of_ble_eq_true rfl) rfl ?_
    refine lp_hanging_mid hd hT hZ x1 12 0 w 0 (by omega) ?_
    generalize miR M 12 0 (w, 0) = r at q1 q4 ⊢
    obtain ⟨r1, r2⟩ := r
    rcases q4 with ⟨g1, g2, g3⟩ | ⟨g1, g2⟩
    · have g1 : r2 = 0 := g1
      have g2 : r1 = w := g2
      subst g1; subst g2
      have hp : clo L p := fun a b ha hb z1 z2 => g3 a b (by omega) (by omega) hb z1 z2
      have he : r1 = x := h2.eq hx (fun k hk => by
        apply Bool.eq_iff_iff.mpr
        exact ⟨h4 k hk, hmin p hp h3 k hk⟩)
      subst he
      refine aw_goto 6 dX6_hanging_101 (by decide) ?_
      refine aw_iload_n dX6_hanging_6 1 rfl ?_
      refine aw_if_eq 104 dX6_hanging_7 (by decide) (fun c1 => ?_) (fun c1 => absurd rfl c1)
      refine aw_iload_n dX6_hanging_104 2 rfl ?_
      refine aw_iret dX6_hanging_105 rfl (Nat.zero_le _) (Nat.zero_le _) ?_
      exact ⟨rfl, rfl⟩
    · have g1 : r2 = 1 := g1
      subst g1
      refine aw_goto 6 dX6_hanging_101 (by decide) ?_
      refine aw_sub [1, 2, 3, 4] rfl ?_
      exact ih r1 q (by omega) q1 (fun k hk z => q2 k hk (h3 k hk z)) q3
theorem sp_X6_hanging {d : Nat} (hd : 1 ≤ d) {M : xM} (t : Nat) (hT : TR M) (hZ : LenR M) (ht : t < 12) {L : Nat → Nat → Bool} (hL : ∀ a b, a < 12 → b < 12 → lkR M a b = L a b) {x : Int32} (hx : SB x (hgP L 12 (fun k => decide (k = t)))) : Sp (fX6_hanging d) [.ref 0, .int (nI t)] M (dt (some (.int x)) M) := by
  refine Sp.of pn_X6 (Nat.le_of_ble_eq_true rfl) (fun h => Bool.noConfusion h) ?_
  refine aw_iconst (v := 1) dX6_hanging_0 (by decide) ?_
  refine aw_iload_n dX6_hanging_1 1 rfl ?_
  refine aw_ishl dX6_hanging_2 ?_
  refine aw_istore_n [(2, .int (1 <<< ((nI t) &&& 31))), (0, .ref 0), (1, .int (nI t))] dX6_hanging_3 (Nat.le_of_ble_eq_true rfl) rfl ?_
  refine aw_iconst (v := 1) dX6_hanging_4 (by decide) ?_
  refine aw_istore_n [(3, .int 1), (2, .int (1 <<< ((nI t) &&& 31))), (0, .ref 0), (1, .int (nI t))] dX6_hanging_5 (Nat.le_of_ble_eq_true rfl) rfl ?_
  refine lp_hanging2 (by omega) hT hZ (nI t) hL (p0 := fun k => decide (k = t)) (hgP_clo ht (decide_eq_true rfl)) (fun q hq h0 => hgP_le hq 12 _ h0) hx 13 _ (fun k => decide (k = t)) (by omega) (SB.one ht) (fun k _ z => z) (fun k _ z => hgP_ge 12 _ k z)
