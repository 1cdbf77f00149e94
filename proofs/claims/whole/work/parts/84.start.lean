-- THE LAW'S ENTRY: what holds of the tables, and the two objects
theorem st_arr {s : State} {args : Array Value} {ty : FieldType} (h : (Cond.arrayClass ty).before args s = true) : ∃ c, s.vm.findClass ("[" ++ ty.toString) = some c ∧ ArrOfT s c ty := by
  obtain ⟨c, k, comp, h1, h2, h3⟩ := Cond.arrayClass_spec h
  exact ⟨c, h1, fun n z => ⟨fun _ h => (by cases h), k, h2, comp, h3⟩⟩
def stF (j k : Nat) : Cond := match j with
  | 0 => .eq (.elem (.static "TapePress$Numbers" "WIDER" "[I") (.int (Int32.ofNat k))) (.int (tWIDER.getD k 0))
  | 1 => .eq (.elem (.static "TapePress$Numbers" "LEAST" "[J") (.int (Int32.ofNat k))) (.long (tLEAST.getD k 0))
  | 2 => .eq (.elem (.static "TapePress$Numbers" "GREATEST" "[J") (.int (Int32.ofNat k))) (.long (tGREATEST.getD k 0))
  | 3 => .eq (.elem (.static "TapePress$Numbers" "WIDTHS" "[I") (.int (Int32.ofNat k))) (.int (tWIDTHS.getD k 0))
  | _ => .eq (.elem (.static "TapePress" "NAMES" "[J") (.int (Int32.ofNat k))) (.long (tNAMES.getD k 0))
theorem stF_in : ∀ j, j < 5 → ∀ k, k < xsN j → stF j k ∈ flatC (Cond.and given_1 narrow_1) := by decide +kernel
theorem stA_in : ∀ j, j < 5 → Cond.arrayOf (.static (xsC j).1 (xsC j).2.1 (xsC j).2.2) (xsT j) ∈ flatC (Cond.and given_1 narrow_1) := by decide +kernel
theorem stL_in : ∀ j, j < 5 → Cond.eq (.length (.static (xsC j).1 (xsC j).2.1 (xsC j).2.2)) (.int (Int32.ofNat (xsN j))) ∈ flatC (Cond.and given_1 narrow_1) := by decide +kernel
theorem stZ_in : ∀ j, j < 5 → Cond.laysStatic (xsC j).1 (xsC j).2.1 (xsC j).2.2 ∈ lw_tbl ∧ Cond.initialized (xsC j).1 ∈ lw_tbl := by decide +kernel
theorem stN_1 : Cond.methodLinkNest RX1 35 yX2_init "TapePress" ∈ lw_tbl := by decide +kernel
theorem stN_2 : Cond.methodLinkNest RX5 77 yX2_init "TapePress" ∈ lw_tbl := by decide +kernel
theorem stN_3 : Cond.arrayOver (.object "TapePress$Row") ∈ lw_tbl := by decide +kernel
theorem st_T {s : State} {args : Array Value} (hgv : (Cond.and given_1 narrow_1).before args s = true) (ht : ∀ w ∈ lw_tbl, w.before args s = true) (j : Nat) (hj : j < 5) : ∃ t : Nat, va_Z (xsC j).1 (xsC j).2.1 (xsC j).2.2 (.ref t) (fun q => s.heap.size ≤ q) s s.heap ∧ va_T (xsT j) t (xsN j) (xsF j) (fun q => s.heap.size ≤ q) s s.heap := by
  have hfl := flat_of_before _ hgv
  have hN : xsN j < 2 ^ 31 := by
    have : ∀ j, j < 5 → xsN j < 2 ^ 31 := by decide
    exact this j hj
  have hel : ∀ k : Nat, k < xsN j → (Term.elem (.static (xsC j).1 (xsC j).2.1 (xsC j).2.2) (.int (Int32.ofNat k))).eval args s none [] s = some (xsF j k) := by
    intro k hk
    have h := hfl _ (stF_in j hj k hk)
    rcases (by omega : j = 0 ∨ j = 1 ∨ j = 2 ∨ j = 3 ∨ j = 4) with rfl | rfl | rfl | rfl | rfl
    · exact va_eqt h
    · exact va_eqtl h
    · exact va_eqtl h
    · exact va_eqt h
    · exact va_eqtl h
  obtain ⟨t, h1, h2⟩ := va_Tof (f := xsF j) (A := fun q => s.heap.size ≤ q) hN (hfl _ (stA_in j hj)) (va_eqt (hfl _ (stL_in j hj))) hel (fun a ha => Nat.not_le.mpr ha)
  exact ⟨t, va_Zof (ht _ (stZ_in j hj).1) (ht _ (stZ_in j hj).2) h1 (fun a ha => Nat.not_le.mpr ha), h2⟩
theorem st_xU {s : State} {args : Array Value} (hgv : (Cond.and given_1 narrow_1).before args s = true) (ht : ∀ w ∈ lw_tbl, w.before args s = true) : ∃ (D : va_G) (S : Nat → Nat) (I J R : ClassId), ∀ (B : Nat) (A : Nat → Prop), (∀ q, A q → s.heap.size ≤ q) → xU (D, B, A, S, I, J, R) s := by
  have hts := gt_sub ht
  obtain ⟨c0, i0, k0⟩ := u_known (T := TX1) (N := 6) hts xcls0 (hts _ is_X1)
  obtain ⟨c1, i1, k1⟩ := u_known (T := TX2) (N := 4) hts xcls1 (hts _ is_X2)
  obtain ⟨c2, i2, k2⟩ := u_known (T := TX3) (N := 2) hts xcls2 (hts _ is_X3)
  obtain ⟨c3, i3, k3⟩ := u_known (T := TX4) (N := 5) hts xcls3 (hts _ is_X4)
  obtain ⟨c4, i4, k4⟩ := u_known (T := TX5) (N := 14) hts xcls4 (hts _ is_X5)
  obtain ⟨c5, i5, k5⟩ := u_known (T := TX6) (N := 33) hts xcls5 (hts _ is_X6)
  obtain ⟨I, hI1, hI2⟩ := st_arr (hts _ ar_int)
  obtain ⟨J, hJ1, hJ2⟩ := st_arr (hts _ ar_long)
  have hAO : va_AO "TapePress$Row" s := va_AO.of (ht _ stN_3)
  obtain ⟨comp, R, kR', hR1, -, hR3, hR4, hR5⟩ := Cond.arrayOver_spec (ht _ stN_3)
  obtain ⟨t0, z0, w0⟩ := st_T hgv ht 0 (by decide)
  obtain ⟨t1, z1, w1⟩ := st_T hgv ht 1 (by decide)
  obtain ⟨t2, z2, w2⟩ := st_T hgv ht 2 (by decide)
  obtain ⟨t3, z3, w3⟩ := st_T hgv ht 3 (by decide)
  obtain ⟨t4, z4, w4⟩ := st_T hgv ht 4 (by decide)
  refine ⟨(fun k => [c0, c1, c2, c3, c4, c5].getD k c0, fun k => [i0, i1, i2, i3, i4, i5].getD k i0), fun j => [t0, t1, t2, t3, t4].getD j t0, I, J, R, fun B A hA => ⟨⟨?_, ?_⟩, ?_, va_Nw.of rfl (ht _ stN_1), va_Nw.of rfl (ht _ stN_2), hAO⟩⟩
  · intro c q hq
    have hc : c < 6 := (List.getElem?_eq_some_iff.mp hq).1
    rcases (by omega : c = 0 ∨ c = 1 ∨ c = 2 ∨ c = 3 ∨ c = 4 ∨ c = 5) with rfl | rfl | rfl | rfl | rfl | rfl <;> cases hq <;> assumption
  · intro k q hq
    have hc : k < 3 := (List.getElem?_eq_some_iff.mp hq).1
    rcases (by omega : k = 0 ∨ k = 1 ∨ k = 2) with rfl | rfl | rfl <;> cases hq
    · exact ⟨hI2, hI1⟩
    · exact ⟨hJ2, hJ1⟩
    · exact ⟨fun n z => ⟨fun _ h => (by cases h), kR', hR3, comp, hR4⟩, kR', comp, hR3, hR4, hR1, hR5⟩
  · intro j hj
    rcases (by omega : j = 0 ∨ j = 1 ∨ j = 2 ∨ j = 3 ∨ j = 4) with rfl | rfl | rfl | rfl | rfl
    · exact ⟨z0.narrow hA, w0.narrow hA⟩
    · exact ⟨z1.narrow hA, w1.narrow hA⟩
    · exact ⟨z2.narrow hA, w2.narrow hA⟩
    · exact ⟨z3.narrow hA, w3.narrow hA⟩
    · exact ⟨z4.narrow hA, w4.narrow hA⟩
