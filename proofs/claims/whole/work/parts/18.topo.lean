-- TOPOLOGY: what stands where, in the class's memory and in the reference's
def rowS (k : Nat) : Nat × Nat := match k with
  | 0 => (0, 1)
  | 1 => (1, 12)
  | _ => (2, 12)
def cShp (a : Nat) : Nat × Nat := match a with
  | 0 => (0, 4)
  | 1 => (3, 12)
  | 2 => (0, 2)
  | 3 => (1, 200)
  | 4 => (0, 2)
  | 5 => (1, 1464)
  | 6 => (0, 2)
  | 7 => (1, 1464)
  | 8 => (0, 0)
  | 9 => (3, 12)
  | 46 => (0, 3)
  | 47 => (1, 12)
  | 48 => (0, 3)
  | 49 => (1, 12)
  | 50 => (0, 3)
  | 51 => (1, 12)
  | 52 => (1, 12)
  | 53 => (1, 5)
  | a => if a < 46 then rowS ((a - 10) % 3) else rowS ((a - 54) % 3)
def cRef (a k : Nat) : Option Nat := match a with
  | 0 => (match k with
    | 0 => some 1
    | 1 => some 2
    | 2 => some 4
    | 3 => some 6
    | 4 => some 8
    | 5 => some 46
    | 6 => some 48
    | 7 => some 50
    | 8 => some 52
    | 9 => some 53
    | _ => none)
  | 1 => if k < 12 then some (54 + 3 * k) else none
  | 2 => if k = 0 then some 3 else none
  | 4 => if k = 0 then some 5 else none
  | 6 => if k = 0 then some 7 else none
  | 8 => if k = 0 then some 9 else none
  | 9 => if k < 12 then some (10 + 3 * k) else none
  | 46 => (match k with
    | 0 => some 1
    | 1 => some 4
    | 2 => some 47
    | _ => none)
  | 48 => (match k with
    | 0 => some 1
    | 1 => some 6
    | 2 => some 49
    | _ => none)
  | 50 => (match k with
    | 0 => some 9
    | 1 => some 6
    | 2 => some 51
    | _ => none)
  | a => if (10 ≤ a ∧ a < 46 ∧ (a - 10) % 3 = 0) ∨ (54 ≤ a ∧ (a - 54) % 3 = 0) then (if k = 2 then some (a + 1) else if k = 3 then some (a + 2) else none) else none
theorem cShp_r : ∀ n, n < 12 → cShp (10 + 3 * n) = (0, 1) ∧ cShp (10 + 3 * n + 1) = (1, 12) ∧ cShp (10 + 3 * n + 2) = (2, 12) ∧ cRef (10 + 3 * n) 2 = some (10 + 3 * n + 1) ∧ cRef (10 + 3 * n) 3 = some (10 + 3 * n + 2) := by decide +kernel
theorem cShp_s : ∀ n, n < 12 → cShp (54 + 3 * n) = (0, 1) ∧ cShp (54 + 3 * n + 1) = (1, 12) ∧ cShp (54 + 3 * n + 2) = (2, 12) ∧ cRef (54 + 3 * n) 2 = some (54 + 3 * n + 1) ∧ cRef (54 + 3 * n) 3 = some (54 + 3 * n + 2) := by decide +kernel
def TC (M : xM) : Prop := mN M = 90 ∧ (∀ a, a < 90 → mS M a = cShp a) ∧ (∀ a k, a < 90 → (a = 8 → k ≠ 4) → mR M a k = cRef a k) ∧ (mR M 8 4 = some 2 ∨ mR M 8 4 = some 4)
theorem TC.n {M : xM} (h : TC M) (a : Nat) (ha : a < 90) : a < mN M := by rw [h.1]; exact ha
theorem TC.s {M : xM} (h : TC M) (a : Nat) (ha : a < 90) : mS M a = cShp a := h.2.1 a ha
theorem TC.r {M : xM} (h : TC M) (a k : Nat) (ha : a < 90) (hk : a = 8 → k ≠ 4) : mR M a k = cRef a k := h.2.2.1 a k ha hk
theorem TC.row {M : xM} (h : TC M) {t : Nat} (ht : t < 12) : RowAt M (54 + 3 * t) := by
  obtain ⟨h1, h2, h3, h4, h5⟩ := cShp_s t ht
  refine ⟨(h.s _ (by omega)).trans h1, (h.s _ (by omega)).trans h2, (h.s _ (by omega)).trans h3, (h.r _ _ (by omega) (by omega)).trans h4, (h.r _ _ (by omega) (by omega)).trans h5, by rw [h.1]; omega⟩
theorem TC.rrow {M : xM} (h : TC M) {t : Nat} (ht : t < 12) : RowAt M (10 + 3 * t) := by
  obtain ⟨h1, h2, h3, h4, h5⟩ := cShp_r t ht
  refine ⟨(h.s _ (by omega)).trans h1, (h.s _ (by omega)).trans h2, (h.s _ (by omega)).trans h3, (h.r _ _ (by omega) (by omega)).trans h4, (h.r _ _ (by omega) (by omega)).trans h5, by rw [h.1]; omega⟩
theorem TC.slot {M : xM} (h : TC M) {t : Nat} (ht : t < 12) : mR M 1 t = some (54 + 3 * t) := by
  rw [h.r 1 t (by omega) (by omega)]
  exact if_pos ht
theorem TC.rslot {M : xM} (h : TC M) {t : Nat} (ht : t < 12) : mR M 9 t = some (10 + 3 * t) := by
  rw [h.r 9 t (by omega) (by omega)]
  exact if_pos ht
theorem vp_lt {i : Int32} {n : Nat} (h : vp_in i n) : i.toNatClampNeg < n := Nat.not_le.mp fun q => h (Or.inr q)
theorem TC.tape {M : xM} (h : TC M) : StripAt M 2 200 := ⟨h.s 2 (by omega), h.s 3 (by omega), h.r 2 0 (by omega) (by omega), by rw [h.1]; omega⟩
theorem TC.ours {M : xM} (h : TC M) : StripAt M 4 1464 := ⟨h.s 4 (by omega), h.s 5 (by omega), h.r 4 0 (by omega) (by omega), by rw [h.1]; omega⟩
theorem TC.theirs {M : xM} (h : TC M) : StripAt M 6 1464 := ⟨h.s 6 (by omega), h.s 7 (by omega), h.r 6 0 (by omega) (by omega), by rw [h.1]; omega⟩
-- memories with one topology
def sT (M M' : xM) : Prop := mN M' = mN M ∧ mS M' = mS M ∧ mR M' = mR M
theorem sT.rf (M : xM) : sT M M := ⟨rfl, rfl, rfl⟩
theorem sT.tr {M M' M'' : xM} (h : sT M M') (h' : sT M' M'') : sT M M'' := ⟨h'.1.trans h.1, h'.2.1.trans h.2.1, h'.2.2.trans h.2.2⟩
theorem sT.I (M : xM) (a k : Nat) (v : Int32) : sT M (stI M a k v) := ⟨rfl, rfl, rfl⟩
theorem sT.L (M : xM) (a k : Nat) (v : Int64) : sT M (stL M a k v) := ⟨rfl, rfl, rfl⟩
theorem sT.TC {M M' : xM} (h : sT M M') (hT : TC M) : TC M' := by
  obtain ⟨h1, h2, h3⟩ := h
  obtain ⟨t1, t2, t3, t4⟩ := hT
  exact ⟨h1.trans t1, fun a ha => by rw [h2]; exact t2 a ha, fun a k ha hk => by rw [h3]; exact t3 a k ha hk, by rw [h3]; exact t4⟩
theorem sT.row {M M' : xM} (h : sT M M') {a : Nat} (hR : RowAt M a) : RowAt M' a := by
  obtain ⟨h1, h2, h3⟩ := h
  unfold RowAt
  rw [h1, h2, h3]
  exact hR
theorem sT.strip {M M' : xM} (h : sT M M') {a n : Nat} (hR : StripAt M a n) : StripAt M' a n := by
  obtain ⟨h1, h2, h3⟩ := h
  unfold StripAt
  rw [h1, h2, h3]
  exact hR
-- the reference
def rShp (a : Nat) : Nat × Nat := match a with
  | 0 => (0, 5)
  | 1 => (1, 24)
  | 2 => (1, 24)
  | 3 => (2, 24)
  | 4 => (1, 288)
  | 5 => (2, 288)
  | 6 => (1, 200)
  | 7 => (1, 5)
  | 8 => (1, 1500)
  | 9 => (1, 1500)
  | 10 => (1, 24)
  | 11 => (1, 12)
  | 12 => (1, 13)
  | 13 => (1, 13)
  | 14 => (1, 200)
  | 15 => (1, 38)
  | 16 => (1, 35)
  | 17 => (1, 16)
  | _ => (2, 16)
def rRef (k : Nat) : Option Nat := match k with
  | 0 => some 1
  | 1 => some 2
  | 2 => some 3
  | 3 => some 4
  | 4 => some 5
  | 5 => some 6
  | 11 => some 7
  | 12 => some 8
  | 14 => some 9
  | 16 => some 10
  | 18 => some 11
  | 20 => some 12
  | 21 => some 13
  | 22 => some 14
  | 29 => some 15
  | 30 => some 16
  | 31 => some 17
  | 32 => some 18
  | _ => none
def TR (M : xM) : Prop := mN M = 19 ∧ (∀ a, a < 19 → mS M a = rShp a) ∧ (∀ k, mR M 0 k = rRef k)
theorem TR.n {M : xM} (h : TR M) (a : Nat) (ha : a < 19) : a < mN M := by rw [h.1]; exact ha
theorem TR.s {M : xM} (h : TR M) (a : Nat) (ha : a < 19) : mS M a = rShp a := h.2.1 a ha
theorem TR.r {M : xM} (h : TR M) (k : Nat) : mR M 0 k = rRef k := h.2.2 k
theorem sT.TR {M M' : xM} (h : sT M M') (hT : TR M) : TR M' := by
  obtain ⟨h1, h2, h3⟩ := h
  obtain ⟨t1, t2, t3⟩ := hT
  exact ⟨h1.trans t1, fun a ha => by rw [h2]; exact t2 a ha, fun k => by rw [h3]; exact t3 k⟩
theorem sT.ite {c : Prop} [Decidable c] {M A B : xM} (ha : sT M A) (hb : sT M B) : sT M (if c then A else B) := by split <;> assumption
theorem sT.cpI (M : xM) (a b x y z : Nat) : sT M (cpI M a b x y z) := ⟨rfl, rfl, rfl⟩
theorem sT.cpL (M : xM) (a b x y z : Nat) : sT M (cpL M a b x y z) := ⟨rfl, rfl, rfl⟩
theorem sT.flI (M : xM) (a lo n : Nat) (g : Nat → Int32) : sT M (flI M a lo n g) := ⟨rfl, rfl, rfl⟩
theorem sT.flL (M : xM) (a lo n : Nat) (g : Nat → Int64) : sT M (flL M a lo n g) := ⟨rfl, rfl, rfl⟩
