-- WHAT FLOATS AND DOUBLES OCCUR, AND THEIR BITS: definitions
abbrev nd (s : Bool) (c : Nat) (r : Int) : UInt64 := FP.Core.of64 (.fin s c r)
abbrev nf (s : Bool) (c : Nat) (r : Int) : UInt32 := FP.Core.of32 (.fin s c r)
def rmK (k : Nat) : Nat := if k = 6 then 23 else 52
def bsK (k : Nat) : Nat := if k = 6 then 127 else 1023
def tpK (k : Nat) : Nat := if k = 6 then 31 else 63
def sgK (k : Nat) (s : Bool) : Nat := if s = true then (if k = 6 then 2 ^ 33 - 1 else 1) else 0
def fbN (k : Nat) (s : Bool) (c E : Nat) : Nat := sgK k s * 2 ^ tpK k + E * 2 ^ rmK k + (c - 2 ^ rmK k)
/-- a double that is a multiple of 1/8 (kind 6: with a float's digits) -/
def okD (k c : Nat) (r : Int) : Prop := 2 ^ 52 ≤ c ∧ c < 2 ^ 53 ∧ -55 ≤ r ∧ r ≤ 40 ∧ (r < -3 → c % 2 ^ (-3 - r).toNat = 0) ∧ (k = 6 → c % 2 ^ 29 = 0)
def isD (k : Nat) (u : UInt64) : Prop := u = FP.dconst0 ∨ ∃ s c r, okD k c r ∧ u = nd s c r
/-- its bits, as a float (6) or double (7) -/
def fb (k : Nat) (u : UInt64) : Int64 := match FP.Core.val64 u with
  | .fin s c r => if c = 0 then 0 else lN (fbN k s (c / 2 ^ (52 - rmK k)) (r + 52 + bsK k).toNat)
  | _ => 0
/-- not above 2^63 -/
def smD (u : UInt64) : Prop := ∀ s c r, FP.Core.val64 u = .fin s c r → c = 0 ∨ r ≤ 10 ∨ (r = 11 ∧ c = 2 ^ 52)
theorem k0 : FP.Core.val64 FP.dconst0 = .fin false 0 (-1074) := by decide +kernel
theorem fb_0 (k : Nat) : fb k FP.dconst0 = 0 := by unfold fb; rw [k0]; rfl
theorem smD_0 : smD FP.dconst0 := by
  intro s c r h
  rw [k0] at h
  cases h
  exact Or.inl rfl
/-- the bits of a float or double that occurs -/
def okF (k : Nat) (v : Int64) : Prop := ∃ u, isD k u ∧ smD u ∧ v = fb k u
theorem okF_0 (k : Nat) : okF k 0 := ⟨FP.dconst0, Or.inl rfl, smD_0, (fb_0 k).symm⟩
