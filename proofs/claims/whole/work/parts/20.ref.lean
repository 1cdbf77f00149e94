-- THE REFERENCE: small methods
def lst (p : Nat → Bool) : Nat → Nat → Int32
  | 0, _ => -1
  | n + 1, i => if p i = true then nI i else lst p n (i + 1)
theorem lst_t {p : Nat → Bool} {i : Nat} (n : Nat) (h : p i = true) : lst p (n + 1) i = nI i := if_pos h
theorem lst_f {p : Nat → Bool} {i : Nat} (n : Nat) (h : p i = false) : lst p (n + 1) i = lst p n (i + 1) := if_neg (by rw [h]; decide)
def cnt (p : Nat → Bool) : Nat → Nat → Nat → Nat
  | 0, _, k => k
  | n + 1, i, k => cnt p n (i + 1) (if p i = true then k + 1 else k)
theorem cnt_t {p : Nat → Bool} {i : Nat} (n k : Nat) (h : p i = true) : cnt p (n + 1) i k = cnt p n (i + 1) (k + 1) := by
  show cnt p n (i + 1) (if p i = true then k + 1 else k) = _
  rw [if_pos h]
theorem cnt_f {p : Nat → Bool} {i : Nat} (n k : Nat) (h : p i = false) : cnt p (n + 1) i k = cnt p n (i + 1) k := by
  show cnt p n (i + 1) (if p i = true then k + 1 else k) = _
  rw [if_neg (by rw [h]; decide)]
def any (p : Nat → Bool) : Nat → Nat → Bool
  | 0, _ => false
  | n + 1, i => p i || any p n (i + 1)
theorem any_t {p : Nat → Bool} {i : Nat} (n : Nat) (h : p i = true) : any p (n + 1) i = true := by show (p i || _) = true; rw [h]; rfl
theorem any_f {p : Nat → Bool} {i : Nat} (n : Nat) (h : p i = false) : any p (n + 1) i = any p n (i + 1) := by show (p i || _) = _; rw [h]; rfl
def wdg : Nat → Nat → Bool
  | 0, v => decide (v = 0)
  | k + 1, v => decide (v = 0) || (decide (¬ v % 27 = 0) && wdg k (v / 27))
theorem wdg_0 (k : Nat) : wdg k 0 = true := by cases k <;> rfl
theorem wdg_z {k v : Nat} (h : 0 < v) (h2 : v % 27 = 0) : wdg k v = false := by
  cases k with
  | zero => exact decide_eq_false (by omega)
  | succ k => simp [wdg, h2]; omega
theorem wdg_s {k v : Nat} (h : 0 < v) (h2 : ¬ v % 27 = 0) : wdg (k + 1) v = wdg k (v / 27) := by
  have h3 : ¬ v = 0 := by omega
  simp [wdg, h2, h3]
/-- a word's code -/
def wrd (c : Int64) : Bool := decide (0 < c) && wdg 7 c.toInt.toNat
abbrev rEmp (M : xM) (t : Nat) : Bool := decide (mI M 1 t < 0)
def sX6_free (M : xM) : Int32 := lst (rEmp M) 12 0
def sX6_things (M : xM) : Int32 := nI (cnt (fun t => !rEmp M t) 12 0 0)
theorem rEmp_t {M : xM} {t : Nat} (h : ¬ 0 ≤ mI M 1 t) : rEmp M t = true := decide_eq_true (Int32.not_le.mp h)
theorem rEmp_f {M : xM} {t : Nat} (h : 0 ≤ mI M 1 t) : rEmp M t = false := decide_eq_false (Int32.not_lt.mpr h)
theorem sp_X6_free {d : Nat} (hd : 0 ≤ d) {M : xM} (hT : TR M) : Sp (fX6_free d) [.ref 0] M (dt (some (.int (sX6_free M))) M) := by
  refine Sp.of pn_X6 (Nat.le_of_ble_eq_true rfl) (fun h => Bool.noConfusion h) ?_
  have loop : ∀ (n i : Nat) , i + n = 12 → AW (fX6_free d) 2 [(1, .int (nI i)), (0, .ref 0)] [] M 0 0 (dt (some (.int (lst (rEmp M) n i))) M) := by
    intro n
    induction n with
    | zero =>
      intro i  hi 
      refine aw_iload_n dX6_free_2 0 rfl ?_
      refine aw_bipush (v := 12) dX6_free_3 (by decide) ?_
      refine aw_icmp_geN i 12 25 dX6_free_5 (by decide) rfl rfl (by omega) (by omega) (fun c1 => ?_) (fun c1 => absurd (by omega) c1)
      refine aw_iconst (v := -1) dX6_free_25 (by decide) ?_
      refine aw_iret dX6_free_26 rfl (Nat.zero_le _) (Nat.zero_le _) ?_
      exact ⟨rfl, rfl⟩
    | succ n ih =>
      intro i  hi 
      refine aw_iload_n dX6_free_2 0 rfl ?_
      refine aw_bipush (v := 12) dX6_free_3 (by decide) ?_
      refine aw_icmp_geN i 12 25 dX6_free_5 (by decide) rfl rfl (by omega) (by omega) (fun c1 => absurd c1 (by omega)) (fun c1 => ?_)
      refine aw_aload_n dX6_free_8 1 rfl ?_
      refine aw_getR (b := 1) dX6_free_9 fl_X6_7 rfl (hT.s 0 (by decide)) (hT.n 0 (by decide)) (hT.r 0) ?_
      refine aw_iload_n dX6_free_12 0 rfl ?_
      refine aw_ialdN i dX6_free_13 (hT.s 1 (by decide)) (hT.n 1 (by decide)) rfl (by omega) (by first | decide | omega) ?_
      refine aw_if_ge 19 dX6_free_14 (by decide) (fun c2 => ?_) (fun c2 => ?_)
      · refine aw_iincN i 1 [(1, .int (nI (i + 1))), (0, .ref 0)] dX6_free_19 0 rfl rfl rfl (Nat.le_of_ble_eq_true rfl) rfl ?_
        refine aw_goto 2 dX6_free_22 (by decide) ?_
        rw [lst_f n (rEmp_f c2)]
        exact ih (i + 1) (by omega)
      · refine aw_iload_n dX6_free_17 0 rfl ?_
        refine aw_iret dX6_free_18 rfl (Nat.zero_le _) (Nat.zero_le _) ?_
        rw [lst_t n (rEmp_t c2)]
        exact ⟨rfl, rfl⟩
  refine aw_iconst (v := 0) dX6_free_0 (by decide) ?_
  refine aw_istore_n [(1, .int 0), (0, .ref 0)] dX6_free_1 (Nat.le_of_ble_eq_true rfl) rfl ?_
  exact loop 12 0 (by omega)
theorem sp_X6_things {d : Nat} (hd : 0 ≤ d) {M : xM} (hT : TR M) : Sp (fX6_things d) [.ref 0] M (dt (some (.int (sX6_things M))) M) := by
  refine Sp.of pn_X6 (Nat.le_of_ble_eq_true rfl) (fun h => Bool.noConfusion h) ?_
  have loop : ∀ (n i : Nat) (k : Nat), i + n = 12 → AW (fX6_things d) 4 [(2, .int (nI i)), (1, .int (nI k)), (0, .ref 0)] [] M 0 0 (dt (some (.int (nI (cnt (fun t => !rEmp M t) n i k)))) M) := by
    intro n
    induction n with
    | zero =>
      intro i k hi 
      refine aw_iload_n dX6_things_4 0 rfl ?_
      refine aw_bipush (v := 12) dX6_things_5 (by decide) ?_
      refine aw_icmp_geN i 12 28 dX6_things_7 (by decide) rfl rfl (by omega) (by omega) (fun c1 => ?_) (fun c1 => absurd (by omega) c1)
      refine aw_iload_n dX6_things_28 1 rfl ?_
      refine aw_iret dX6_things_29 rfl (Nat.zero_le _) (Nat.zero_le _) ?_
      exact ⟨rfl, rfl⟩
    | succ n ih =>
      intro i k hi 
      refine aw_iload_n dX6_things_4 0 rfl ?_
      refine aw_bipush (v := 12) dX6_things_5 (by decide) ?_
      refine aw_icmp_geN i 12 28 dX6_things_7 (by decide) rfl rfl (by omega) (by omega) (fun c1 => absurd c1 (by omega)) (fun c1 => ?_)
      refine aw_aload_n dX6_things_10 2 rfl ?_
      refine aw_getR (b := 1) dX6_things_11 fl_X6_7 rfl (hT.s 0 (by decide)) (hT.n 0 (by decide)) (hT.r 0) ?_
      refine aw_iload_n dX6_things_14 0 rfl ?_
      refine aw_ialdN i dX6_things_15 (hT.s 1 (by decide)) (hT.n 1 (by decide)) rfl (by omega) (by first | decide | omega) ?_
      refine aw_if_lt 22 dX6_things_16 (by decide) (fun c2 => ?_) (fun c2 => ?_)
      · refine aw_iincN i 1 [(2, .int (nI (i + 1))), (1, .int (nI k)), (0, .ref 0)] dX6_things_22 0 rfl rfl rfl (Nat.le_of_ble_eq_true rfl) rfl ?_
        refine aw_goto 4 dX6_things_25 (by decide) ?_
        rw [cnt_f n k (show (!rEmp M i) = false by rw [rEmp, decide_eq_true c2]; rfl)]
        exact ih (i + 1) k (by omega)
      · refine aw_iincN k 1 [(1, .int (nI (k + 1))), (2, .int (nI i)), (0, .ref 0)] dX6_things_19 1 rfl rfl rfl (Nat.le_of_ble_eq_true rfl) rfl ?_
        refine aw_iincN i 1 [(2, .int (nI (i + 1))), (1, .int (nI (k + 1))), (0, .ref 0)] dX6_things_22 1 rfl rfl rfl (Nat.le_of_ble_eq_true rfl) rfl ?_
        refine aw_goto 4 dX6_things_25 (by decide) ?_
        rw [cnt_t n k (show (!rEmp M i) = true by rw [rEmp, decide_eq_false c2]; rfl)]
        exact ih (i + 1) (k + 1) (by omega)
  refine aw_iconst (v := 0) dX6_things_0 (by decide) ?_
  refine aw_istore_n [(1, .int 0), (0, .ref 0)] dX6_things_1 (Nat.le_of_ble_eq_true rfl) rfl ?_
  refine aw_iconst (v := 0) dX6_things_2 (by decide) ?_
  refine aw_istore_n [(2, .int 0), (1, .int 0), (0, .ref 0)] dX6_things_3 (Nat.le_of_ble_eq_true rfl) rfl ?_
  exact loop 12 0 0 (by omega)
theorem wrd_f {c : Int64} (h : ¬ 0 < c) : wrd c = false := by unfold wrd; rw [decide_eq_false h]; rfl
theorem lN_toNat {c : Int64} (h : 0 < c) : c = lN c.toInt.toNat ∧ 0 < c.toInt.toNat ∧ c.toInt.toNat < 2 ^ 63 := by
  have h1 : (0 : Int) < c.toInt := Int64.lt_iff_toInt_lt.mp h
  have h2 := Int64.toInt_lt c
  refine ⟨?_, by omega, by omega⟩
  apply Int64.toInt_inj.mp
  rw [pk_lT (by omega)]
  omega
theorem sp_X6_isWord {d : Nat} (hd : 0 ≤ d) {M : xM} (x1 : Int64) : Sp (fX6_isWord d) [.long x1] M (dt (some (.int (bz (wrd x1)))) M) := by
  refine Sp.of pn_X6 (Nat.le_of_ble_eq_true rfl) (fun h => Bool.noConfusion h) ?_
  by_cases hp : 0 < x1
  · obtain ⟨e1, e2, e3⟩ := lN_toNat hp
    have hw : wrd x1 = wdg 7 x1.toInt.toNat := by unfold wrd; rw [decide_eq_true hp]; rfl
    generalize x1.toInt.toNat = w at e1 e2 e3 hw
    subst e1
    rw [hw]
    have loop : ∀ (n i v : Nat), i + n = 8 → v < 2 ^ 63 → AW (fX6_isWord d) 5 [(4, .int (nI i)), (2, .long (lN v)), (0, .long (lN w))] [] M 0 0 (dt (some (.int (bz (decide (i ≤ 7) && wdg (7 - i) v)))) M) := by
      intro n
      induction n with
      | zero =>
        intro i v hi hv
        refine aw_lload_n dX6_isWord_5 1 rfl ?_
        refine aw_lconst (v := 0) dX6_isWord_6 (by decide) ?_
        refine aw_lleN v 0 42 dX6_isWord_7 dX6_isWord_8 (by decide) rfl rfl (by omega) (by omega) (fun c1 => ?_) (fun c1 => ?_)
        · refine aw_lload_n dX6_isWord_42 2 rfl ?_
          refine aw_lconst (v := 0) dX6_isWord_43 (by decide) ?_
          refine aw_lleN w 0 59 dX6_isWord_44 dX6_isWord_45 (by decide) rfl rfl (by omega) (by omega) (fun c2 => absurd c2 (by omega)) (fun c2 => ?_)
          refine aw_iload dX6_isWord_48 0 rfl ?_
          refine aw_bipush (v := 7) dX6_isWord_50 (by decide) ?_
          refine aw_icmp_gtN i 7 59 dX6_isWord_52 (by decide) rfl rfl (by omega) (by omega) (fun c3 => ?_) (fun c3 => ?_)
          · refine aw_iconst (v := 0) dX6_isWord_59 (by decide) ?_
            refine aw_zret dX6_isWord_60 rfl rfl (Nat.zero_le _) (Nat.zero_le _) ?_
            exact ⟨congrArg (fun z => some (Value.int (bz z))) (show (decide (i ≤ 7) && wdg (7 - i) v) = false by rw [decide_eq_false (by omega)]; rfl).symm, rfl⟩
          · refine aw_iconst (v := 1) dX6_isWord_55 (by decide) ?_
            refine aw_goto 60 dX6_isWord_56 (by decide) ?_
            refine aw_zret dX6_isWord_60 rfl rfl (Nat.zero_le _) (Nat.zero_le _) ?_
            have hv : v = 0 := by omega
            subst hv
            exact ⟨congrArg (fun z => some (Value.int (bz z))) (show (decide (i ≤ 7) && wdg (7 - i) 0) = true by rw [wdg_0, decide_eq_true (by omega)]; rfl).symm, rfl⟩
        · refine aw_iload dX6_isWord_11 0 rfl ?_
          refine aw_bipush (v := 8) dX6_isWord_13 (by decide) ?_
          refine aw_icmp_geN i 8 42 dX6_isWord_15 (by decide) rfl rfl (by omega) (by omega) (fun c4 => ?_) (fun c4 => absurd (by omega) c4)
          refine aw_lload_n dX6_isWord_42 2 rfl ?_
          refine aw_lconst (v := 0) dX6_isWord_43 (by decide) ?_
          refine aw_lleN w 0 59 dX6_isWord_44 dX6_isWord_45 (by decide) rfl rfl (by omega) (by omega) (fun c5 => absurd c5 (by omega)) (fun c5 => ?_)
          refine aw_iload dX6_isWord_48 0 rfl ?_
          refine aw_bipush (v := 7) dX6_isWord_50 (by decide) ?_
          refine aw_icmp_gtN i 7 59 dX6_isWord_52 (by decide) rfl rfl (by omega) (by omega) (fun c6 => ?_) (fun c6 => ?_)
          · refine aw_iconst (v := 0) dX6_isWord_59 (by decide) ?_
            refine aw_zret dX6_isWord_60 rfl rfl (Nat.zero_le _) (Nat.zero_le _) ?_
            exact ⟨congrArg (fun z => some (Value.int (bz z))) (show (decide (i ≤ 7) && wdg (7 - i) v) = false by rw [decide_eq_false (by omega)]; rfl).symm, rfl⟩
          · refine aw_iconst (v := 1) dX6_isWord_55 (by decide) ?_
            refine aw_goto 60 dX6_isWord_56 (by decide) ?_
            refine aw_zret dX6_isWord_60 rfl rfl (Nat.zero_le _) (Nat.zero_le _) ?_
            have hv : v = 0 := by omega
            subst hv
            exact ⟨congrArg (fun z => some (Value.int (bz z))) (show (decide (i ≤ 7) && wdg (7 - i) 0) = true by rw [wdg_0, decide_eq_true (by omega)]; rfl).symm, rfl⟩
      | succ n ih =>
        intro i v hi hv
        refine aw_lload_n dX6_isWord_5 1 rfl ?_
        refine aw_lconst (v := 0) dX6_isWord_6 (by decide) ?_
        refine aw_lleN v 0 42 dX6_isWord_7 dX6_isWord_8 (by decide) rfl rfl (by omega) (by omega) (fun c1 => ?_) (fun c1 => ?_)
        · refine aw_lload_n dX6_isWord_42 2 rfl ?_
          refine aw_lconst (v := 0) dX6_isWord_43 (by decide) ?_
          refine aw_lleN w 0 59 dX6_isWord_44 dX6_isWord_45 (by decide) rfl rfl (by omega) (by omega) (fun c2 => absurd c2 (by omega)) (fun c2 => ?_)
          refine aw_iload dX6_isWord_48 0 rfl ?_
          refine aw_bipush (v := 7) dX6_isWord_50 (by decide) ?_
          refine aw_icmp_gtN i 7 59 dX6_isWord_52 (by decide) rfl rfl (by omega) (by omega) (fun c3 => ?_) (fun c3 => ?_)
          · refine aw_iconst (v := 0) dX6_isWord_59 (by decide) ?_
            refine aw_zret dX6_isWord_60 rfl rfl (Nat.zero_le _) (Nat.zero_le _) ?_
            exact ⟨congrArg (fun z => some (Value.int (bz z))) (show (decide (i ≤ 7) && wdg (7 - i) v) = false by rw [decide_eq_false (by omega)]; rfl).symm, rfl⟩
          · refine aw_iconst (v := 1) dX6_isWord_55 (by decide) ?_
            refine aw_goto 60 dX6_isWord_56 (by decide) ?_
            refine aw_zret dX6_isWord_60 rfl rfl (Nat.zero_le _) (Nat.zero_le _) ?_
            have hv : v = 0 := by omega
            subst hv
            exact ⟨congrArg (fun z => some (Value.int (bz z))) (show (decide (i ≤ 7) && wdg (7 - i) 0) = true by rw [wdg_0, decide_eq_true (by omega)]; rfl).symm, rfl⟩
        · refine aw_iload dX6_isWord_11 0 rfl ?_
          refine aw_bipush (v := 8) dX6_isWord_13 (by decide) ?_
          refine aw_icmp_geN i 8 42 dX6_isWord_15 (by decide) rfl rfl (by omega) (by omega) (fun c4 => absurd c4 (by omega)) (fun c4 => ?_)
          refine aw_lload_n dX6_isWord_18 1 rfl ?_
          refine aw_ldc2 dX6_isWord_19 kc_X6_69 ?_
          refine aw_lremN v 27 dX6_isWord_22 rfl rfl (by omega) (by first | decide | omega) (by first | decide | omega) ?_
          refine aw_lconst (v := 0) dX6_isWord_23 (by decide) ?_
          refine aw_lneN (v % 27) 0 30 dX6_isWord_24 dX6_isWord_25 (by decide) rfl rfl (by omega) (by omega) (fun c5 => ?_) (fun c5 => ?_)
          · refine aw_lload_n dX6_isWord_30 1 rfl ?_
            refine aw_ldc2 dX6_isWord_31 kc_X6_69 ?_
            refine aw_ldivN v 27 dX6_isWord_34 rfl rfl (by omega) (by first | decide | omega) (by first | decide | omega) ?_
            refine aw_lstore_n [(2, .long (lN (v / 27))), (4, .int (nI i)), (0, .long (lN w))] dX6_isWord_35 (Nat.le_of_ble_eq_true rfl) rfl ?_
            refine aw_iincN i 1 [(4, .int (nI (i + 1))), (2, .long (lN (v / 27))), (0, .long (lN w))] dX6_isWord_36 1 rfl rfl rfl (Nat.le_of_ble_eq_true rfl) rfl ?_
            refine aw_goto 5 dX6_isWord_39 (by decide) ?_
            by_cases h7 : i = 7
            · have e0 : (decide (i ≤ 7) && wdg (7 - i) v) = (decide (i + 1 ≤ 7) && wdg (7 - (i + 1)) (v / 27)) := by
                subst h7
                rw [decide_eq_false (by omega : ¬ 7 + 1 ≤ 7)]
                show (true && decide (v = 0)) = _
                rw [decide_eq_false (by omega)]
                rfl
              rw [e0]
              exact ih (i + 1) (v / 27) (by omega) (by omega)
            · have e0 : (decide (i ≤ 7) && wdg (7 - i) v) = (decide (i + 1 ≤ 7) && wdg (7 - (i + 1)) (v / 27)) := by
                rw [decide_eq_true (by omega : i ≤ 7), decide_eq_true (by omega : i + 1 ≤ 7), show 7 - i = 7 - (i + 1) + 1 by omega, wdg_s (by omega) c5]
              rw [e0]
              exact ih (i + 1) (v / 27) (by omega) (by omega)
          · refine aw_iconst (v := 0) dX6_isWord_28 (by decide) ?_
            refine aw_zret dX6_isWord_29 rfl rfl (Nat.zero_le _) (Nat.zero_le _) ?_
            exact ⟨congrArg (fun z => some (Value.int (bz z))) (show (decide (i ≤ 7) && wdg (7 - i) v) = false by rw [wdg_z (by omega) c5]; simp).symm, rfl⟩
    refine aw_lload_n dX6_isWord_0 0 rfl ?_
    refine aw_lstore_n [(2, .long (lN w)), (0, .long (lN w))] dX6_isWord_1 (Nat.le_of_ble_eq_true rfl) rfl ?_
    refine aw_iconst (v := 0) dX6_isWord_2 (by decide) ?_
    refine aw_istore [(4, .int 0), (2, .long (lN w)), (0, .long (lN w))] dX6_isWord_3 (Nat.le_of_ble_eq_true rfl) rfl ?_
    exact loop 8 0 w (by omega) e3
  · rw [wrd_f hp]
    refine aw_lload_n dX6_isWord_0 0 rfl ?_
    refine aw_lstore_n [(2, .long x1), (0, .long x1)] dX6_isWord_1 (Nat.le_of_ble_eq_true rfl) rfl ?_
    refine aw_iconst (v := 0) dX6_isWord_2 (by decide) ?_
    refine aw_istore [(4, .int 0), (2, .long x1), (0, .long x1)] dX6_isWord_3 (Nat.le_of_ble_eq_true rfl) rfl ?_
    refine aw_lload_n dX6_isWord_5 1 rfl ?_
    refine aw_lconst (v := 0) dX6_isWord_6 (by decide) ?_
    refine aw_lle 42 dX6_isWord_7 dX6_isWord_8 (by decide) (fun c1 => ?_) (fun c1 => absurd (Int64.not_lt.mp hp) c1)
    refine aw_lload_n dX6_isWord_42 2 rfl ?_
    refine aw_lconst (v := 0) dX6_isWord_43 (by decide) ?_
    refine aw_lle 59 dX6_isWord_44 dX6_isWord_45 (by decide) (fun c2 => ?_) (fun c2 => absurd (Int64.not_lt.mp hp) c2)
    refine aw_iconst (v := 0) dX6_isWord_59 (by decide) ?_
    refine aw_zret dX6_isWord_60 rfl rfl (Nat.zero_le _) (Nat.zero_le _) ?_
    exact ⟨rfl, rfl⟩
abbrev rFl (x : Int32) : Int32 := if x < 8 then x else 11
def begM (M : xM) (t : Nat) (x2 x3 : Int32) : xM := flL (flI (stL (stI (stI M 1 t x2) 2 t x3) 3 t 0) 4 (12 * t) 12 (fun _ => rFl x2)) 5 (12 * t) 12 (fun _ => 0)
theorem sT_X6_begins (M : xM) (t : Nat) (x2 x3 : Int32) : sT M (begM M t x2 x3) := ⟨rfl, rfl, rfl⟩
theorem sp_X6_begins {d : Nat} (hd : 0 ≤ d) {M : xM} (t : Nat) (x2 x3 : Int32) (hT : TR M) (ht : t < 24) : Sp (fX6_begins d) [.ref 0, .int (nI t), .int x2, .int x3] M (dt none (begM M t x2 x3)) := by
  refine Sp.of pn_X6 (Nat.le_of_ble_eq_true rfl) (fun h => Bool.noConfusion h) ?_
  generalize hM3 : stL (stI (stI M 1 t x2) 2 t x3) 3 t 0 = M3
  have hT3 : TR M3 := by rw [← hM3]; exact hT
  have hB : begM M t x2 x3 = flL (flI M3 4 (12 * t) 12 (fun _ => rFl x2)) 5 (12 * t) 12 (fun _ => 0) := by rw [← hM3]; rfl
  rw [hB]
  have loop : ∀ (n i : Nat) , i + n = 12 → AW (fX6_begins d) 24 [(4, .int (nI i)), (0, .ref 0), (1, .int (nI t)), (2, .int x2), (3, .int x3)] [] (flL (flI M3 4 (12 * t) i (fun _ => rFl x2)) 5 (12 * t) i (fun _ => 0)) 0 0 (dt none (flL (flI M3 4 (12 * t) 12 (fun _ => rFl x2)) 5 (12 * t) 12 (fun _ => 0))) := by
    intro n
    induction n with
    | zero =>
      intro i  hi 
      refine aw_iload dX6_begins_24 0 rfl ?_
      refine aw_bipush (v := 12) dX6_begins_26 (by decide) ?_
      refine aw_icmp_geN i 12 74 dX6_begins_28 (by decide) rfl rfl (by omega) (by omega) (fun c1 => ?_) (fun c1 => absurd (by omega) c1)
      refine aw_ret dX6_begins_74 rfl (Nat.zero_le _) (Nat.zero_le _) ?_
      obtain rfl : i = 12 := by omega
      exact ⟨rfl, rfl⟩
    | succ n ih =>
      intro i  hi 
      refine aw_iload dX6_begins_24 0 rfl ?_
      refine aw_bipush (v := 12) dX6_begins_26 (by decide) ?_
      refine aw_icmp_geN i 12 74 dX6_begins_28 (by decide) rfl rfl (by omega) (by omega) (fun c1 => absurd c1 (by omega)) (fun c1 => ?_)
      refine aw_aload_n dX6_begins_31 1 rfl ?_
      refine aw_getR (b := 4) dX6_begins_32 fl_X6_20 rfl (hT3.s 0 (by decide)) (hT3.n 0 (by decide)) (hT3.r 3) ?_
      refine aw_bipush (v := 12) dX6_begins_35 (by decide) ?_
      refine aw_iload_n dX6_begins_37 2 rfl ?_
      refine aw_imulN 12 t dX6_begins_38 rfl rfl ?_
      refine aw_iload dX6_begins_39 0 rfl ?_
      refine aw_iaddN (12 * t) i dX6_begins_41 rfl rfl ?_
      refine aw_iload_n dX6_begins_42 3 rfl ?_
      refine aw_bipush (v := 8) dX6_begins_43 (by decide) ?_
      refine aw_icmp_ge 52 dX6_begins_45 (by decide) (fun c2 => ?_) (fun c2 => ?_)
      · refine aw_bipush (v := 11) dX6_begins_52 (by decide) ?_
        refine aw_iastN ((12 * t) + i) dX6_begins_54 (hT3.s 4 (by decide)) (hT3.n 4 (by decide)) rfl (by omega) (by first | decide | omega) ?_
        refine aw_aload_n dX6_begins_55 1 rfl ?_
        refine aw_getR (b := 5) dX6_begins_56 fl_X6_23 rfl (hT3.s 0 (by decide)) (hT3.n 0 (by decide)) (hT3.r 4) ?_
        refine aw_bipush (v := 12) dX6_begins_59 (by decide) ?_
        refine aw_iload_n dX6_begins_61 2 rfl ?_
        refine aw_imulN 12 t dX6_begins_62 rfl rfl ?_
        refine aw_iload dX6_begins_63 0 rfl ?_
        refine aw_iaddN (12 * t) i dX6_begins_65 rfl rfl ?_
        refine aw_lconst (v := 0) dX6_begins_66 (by decide) ?_
        refine aw_lastN ((12 * t) + i) dX6_begins_67 (hT3.s 5 (by decide)) (hT3.n 5 (by decide)) rfl (by omega) (by first | decide | omega) ?_
        refine aw_iincN i 1 [(4, .int (nI (i + 1))), (0, .ref 0), (1, .int (nI t)), (2, .int x2), (3, .int x3)] dX6_begins_68 0 rfl rfl rfl (Nat.le_of_ble_eq_true rfl) rfl ?_
        refine aw_goto 24 dX6_begins_71 (by decide) ?_
        refine aw_eqM (flIL_s M3 4 (12 * t) 5 (12 * t) i _ _ (if_neg (Int32.not_lt.mpr c2)).symm rfl) ?_
        exact ih (i + 1) (by omega)
      · refine aw_iload_n dX6_begins_48 3 rfl ?_
        refine aw_goto 54 dX6_begins_49 (by decide) ?_
        refine aw_iastN ((12 * t) + i) dX6_begins_54 (hT3.s 4 (by decide)) (hT3.n 4 (by decide)) rfl (by omega) (by first | decide | omega) ?_
        refine aw_aload_n dX6_begins_55 1 rfl ?_
        refine aw_getR (b := 5) dX6_begins_56 fl_X6_23 rfl (hT3.s 0 (by decide)) (hT3.n 0 (by decide)) (hT3.r 4) ?_
        refine aw_bipush (v := 12) dX6_begins_59 (by decide) ?_
        refine aw_iload_n dX6_begins_61 2 rfl ?_
        refine aw_imulN 12 t dX6_begins_62 rfl rfl ?_
        refine aw_iload dX6_begins_63 0 rfl ?_
        refine aw_iaddN (12 * t) i dX6_begins_65 rfl rfl ?_
        refine aw_lconst (v := 0) dX6_begins_66 (by decide) ?_
        refine aw_lastN ((12 * t) + i) dX6_begins_67 (hT3.s 5 (by decide)) (hT3.n 5 (by decide)) rfl (by omega) (by first | decide | omega) ?_
        refine aw_iincN i 1 [(4, .int (nI (i + 1))), (0, .ref 0), (1, .int (nI t)), (2, .int x2), (3, .int x3)] dX6_begins_68 0 rfl rfl rfl (Nat.le_of_ble_eq_true rfl) rfl ?_
        refine aw_goto 24 dX6_begins_71 (by decide) ?_
        refine aw_eqM (flIL_s M3 4 (12 * t) 5 (12 * t) i _ _ (if_pos (Int32.not_le.mp c2)).symm rfl) ?_
        exact ih (i + 1) (by omega)
  refine aw_aload_n dX6_begins_0 0 rfl ?_
  refine aw_getR (b := 1) dX6_begins_1 fl_X6_7 rfl (hT.s 0 (by decide)) (hT.n 0 (by decide)) (hT.r 0) ?_
  refine aw_iload_n dX6_begins_4 1 rfl ?_
  refine aw_iload_n dX6_begins_5 2 rfl ?_
  refine aw_iastN t dX6_begins_6 (hT.s 1 (by decide)) (hT.n 1 (by decide)) rfl (by omega) (by first | decide | omega) ?_
  refine aw_aload_n dX6_begins_7 0 rfl ?_
  refine aw_getR (b := 2) dX6_begins_8 fl_X6_13 rfl (hT.s 0 (by decide)) (hT.n 0 (by decide)) (hT.r 1) ?_
  refine aw_iload_n dX6_begins_11 1 rfl ?_
  refine aw_iload_n dX6_begins_12 3 rfl ?_
  refine aw_iastN t dX6_begins_13 (hT.s 2 (by decide)) (hT.n 2 (by decide)) rfl (by omega) (by first | decide | omega) ?_
  refine aw_aload_n dX6_begins_14 0 rfl ?_
  refine aw_getR (b := 3) dX6_begins_15 fl_X6_16 rfl (hT.s 0 (by decide)) (hT.n 0 (by decide)) (hT.r 2) ?_
  refine aw_iload_n dX6_begins_18 1 rfl ?_
  refine aw_lconst (v := 0) dX6_begins_19 (by decide) ?_
  refine aw_lastN t dX6_begins_20 (hT.s 3 (by decide)) (hT.n 3 (by decide)) rfl (by omega) (by first | decide | omega) ?_
  refine aw_iconst (v := 0) dX6_begins_21 (by decide) ?_
  refine aw_istore [(4, .int 0), (0, .ref 0), (1, .int (nI t)), (2, .int x2), (3, .int x3)] dX6_begins_22 (Nat.le_of_ble_eq_true rfl) rfl ?_
  refine aw_eqM ((flIL_0 M3 4 (12 * t) 5 (12 * t) (fun _ => rFl x2) (fun _ => 0)).symm ▸ hM3) ?_
  exact loop 12 0 (by omega)
abbrev rLk (M : xM) (u : Nat) (v : Int64) (i : Nat) : Bool := decide (mI M 4 (12 * u + i) = 10) && decide (mL M 5 (12 * u + i) = v)
theorem rLk_t {M : xM} {u i : Nat} {v : Int64} (h1 : mI M 4 (12 * u + i) = 10) (h2 : mL M 5 (12 * u + i) = v) : rLk M u v i = true := by rw [rLk, decide_eq_true h1, decide_eq_true h2]; rfl
theorem rLk_f1 {M : xM} {u i : Nat} {v : Int64} (h1 : ¬ mI M 4 (12 * u + i) = 10) : rLk M u v i = false := by rw [rLk, decide_eq_false h1]; rfl
theorem rLk_f2 {M : xM} {u i : Nat} {v : Int64} (h2 : ¬ mL M 5 (12 * u + i) = v) : rLk M u v i = false := by rw [rLk, decide_eq_false h2, Bool.and_false]
theorem sp_X6_stands {d : Nat} (hd : 0 ≤ d) {M : xM} (x1 : Int32) (u z : Nat) (hT : TR M) (hu : u < 24) (hz : mI M 2 u = nI z) (hz2 : z ≤ 12) : Sp (fX6_stands d) [.ref 0, .int x1, .int (nI u)] M (dt (some (.int (bz (any (rLk M u x1.toInt64) z 0)))) M) := by
  refine Sp.of pn_X6 (Nat.le_of_ble_eq_true rfl) (fun h => Bool.noConfusion h) ?_
  have loop : ∀ (n i : Nat) , i + n = z → AW (fX6_stands d) 2 [(3, .int (nI i)), (0, .ref 0), (1, .int x1), (2, .int (nI u))] [] M 0 0 (dt (some (.int (bz (any (rLk M u x1.toInt64) n i)))) M) := by
    intro n
    induction n with
    | zero =>
      intro i  hi 
      refine aw_iload_n dX6_stands_2 0 rfl ?_
      refine aw_aload_n dX6_stands_3 1 rfl ?_
      refine aw_getR (b := 2) dX6_stands_4 fl_X6_13 rfl (hT.s 0 (by decide)) (hT.n 0 (by decide)) (hT.r 1) ?_
      refine aw_iload_n dX6_stands_7 3 rfl ?_
      refine aw_ialdN u dX6_stands_8 (hT.s 2 (by decide)) (hT.n 2 (by decide)) rfl (by omega) (by first | decide | omega) ?_
      refine aw_topE hz ?_
      refine aw_icmp_geN i z 53 dX6_stands_9 (by decide) rfl rfl (by omega) (by omega) (fun c1 => ?_) (fun c1 => absurd (by omega) c1)
      refine aw_iconst (v := 0) dX6_stands_53 (by decide) ?_
      refine aw_zret dX6_stands_54 rfl rfl (Nat.zero_le _) (Nat.zero_le _) ?_
      exact ⟨rfl, rfl⟩
    | succ n ih =>
      intro i  hi 
      refine aw_iload_n dX6_stands_2 0 rfl ?_
      refine aw_aload_n dX6_stands_3 1 rfl ?_
      refine aw_getR (b := 2) dX6_stands_4 fl_X6_13 rfl (hT.s 0 (by decide)) (hT.n 0 (by decide)) (hT.r 1) ?_
      refine aw_iload_n dX6_stands_7 3 rfl ?_
      refine aw_ialdN u dX6_stands_8 (hT.s 2 (by decide)) (hT.n 2 (by decide)) rfl (by omega) (by first | decide | omega) ?_
      refine aw_topE hz ?_
      refine aw_icmp_geN i z 53 dX6_stands_9 (by decide) rfl rfl (by omega) (by omega) (fun c1 => absurd c1 (by omega)) (fun c1 => ?_)
      refine aw_aload_n dX6_stands_12 1 rfl ?_
      refine aw_getR (b := 4) dX6_stands_13 fl_X6_20 rfl (hT.s 0 (by decide)) (hT.n 0 (by decide)) (hT.r 3) ?_
      refine aw_bipush (v := 12) dX6_stands_16 (by decide) ?_
      refine aw_iload_n dX6_stands_18 3 rfl ?_
      refine aw_imulN 12 u dX6_stands_19 rfl rfl ?_
      refine aw_iload_n dX6_stands_20 0 rfl ?_
      refine aw_iaddN (12 * u) i dX6_stands_21 rfl rfl ?_
      refine aw_ialdN ((12 * u) + i) dX6_stands_22 (hT.s 4 (by decide)) (hT.n 4 (by decide)) rfl (by omega) (by first | decide | omega) ?_
      refine aw_bipush (v := 10) dX6_stands_23 (by decide) ?_
      refine aw_icmp_ne 47 dX6_stands_25 (by decide) (fun c2 => ?_) (fun c2 => ?_)
      · refine aw_iincN i 1 [(3, .int (nI (i + 1))), (0, .ref 0), (1, .int x1), (2, .int (nI u))] dX6_stands_47 0 rfl rfl rfl (Nat.le_of_ble_eq_true rfl) rfl ?_
        refine aw_goto 2 dX6_stands_50 (by decide) ?_
        rw [any_f n (rLk_f1 c2)]
        exact ih (i + 1) (by omega)
      · refine aw_aload_n dX6_stands_28 1 rfl ?_
        refine aw_getR (b := 5) dX6_stands_29 fl_X6_23 rfl (hT.s 0 (by decide)) (hT.n 0 (by decide)) (hT.r 4) ?_
        refine aw_bipush (v := 12) dX6_stands_32 (by decide) ?_
        refine aw_iload_n dX6_stands_34 3 rfl ?_
        refine aw_imulN 12 u dX6_stands_35 rfl rfl ?_
        refine aw_iload_n dX6_stands_36 0 rfl ?_
        refine aw_iaddN (12 * u) i dX6_stands_37 rfl rfl ?_
        refine aw_laldN ((12 * u) + i) dX6_stands_38 (hT.s 5 (by decide)) (hT.n 5 (by decide)) rfl (by omega) (by first | decide | omega) ?_
        refine aw_iload_n dX6_stands_39 2 rfl ?_
        refine aw_i2l dX6_stands_40 ?_
        refine aw_lne 47 dX6_stands_41 dX6_stands_42 (by decide) (fun c3 => ?_) (fun c3 => ?_)
        · refine aw_iincN i 1 [(3, .int (nI (i + 1))), (0, .ref 0), (1, .int x1), (2, .int (nI u))] dX6_stands_47 0 rfl rfl rfl (Nat.le_of_ble_eq_true rfl) rfl ?_
          refine aw_goto 2 dX6_stands_50 (by decide) ?_
          rw [any_f n (rLk_f2 c3)]
          exact ih (i + 1) (by omega)
        · refine aw_iconst (v := 1) dX6_stands_45 (by decide) ?_
          refine aw_zret dX6_stands_46 rfl rfl (Nat.zero_le _) (Nat.zero_le _) ?_
          rw [any_t n (rLk_t c2 c3)]
          exact ⟨rfl, rfl⟩
  refine aw_iconst (v := 0) dX6_stands_0 (by decide) ?_
  refine aw_istore_n [(3, .int 0), (0, .ref 0), (1, .int x1), (2, .int (nI u))] dX6_stands_1 (Nat.le_of_ble_eq_true rfl) rfl ?_
  exact loop z 0 (by omega)
def copM (M : xM) (t u z : Nat) : xM := flL (flI M 4 (12 * u) z (fun j => mI M 4 (12 * t + j))) 5 (12 * u) z (fun j => mL M 5 (12 * t + j))
theorem sT_X6_copies (M : xM) (t u z : Nat) : sT M (copM M t u z) := ⟨rfl, rfl, rfl⟩
theorem copM_I (M : xM) (t u z : Nat) {x : Nat} (h : x ≠ 4) : mI (copM M t u z) x = mI M x := by unfold copM; rw [mI_flL, mI_flI_ne _ h]
theorem copM_L (M : xM) (t u z : Nat) {x : Nat} (h : x ≠ 5) : mL (copM M t u z) x = mL M x := by unfold copM; rw [mL_flL_ne _ h]; rfl
theorem sp_X6_copies {d : Nat} (hd : 0 ≤ d) {M : xM} (t u z : Nat) (hT : TR M) (ht : t < 24) (hu : u < 24) (hne : t ≠ u) (hz : mI M 2 t = nI z) (hz2 : z ≤ 12) : Sp (fX6_copies d) [.ref 0, .int (nI t), .int (nI u)] M (dt none (copM M t u z)) := by
  refine Sp.of pn_X6 (Nat.le_of_ble_eq_true rfl) (fun h => Bool.noConfusion h) ?_
  have loop : ∀ (n i : Nat) , i + n = z → AW (fX6_copies d) 2 [(3, .int (nI i)), (0, .ref 0), (1, .int (nI t)), (2, .int (nI u))] [] (copM M t u i) 0 0 (dt none (copM M t u z)) := by
    intro n
    induction n with
    | zero =>
      intro i  hi 
      refine aw_iload_n dX6_copies_2 0 rfl ?_
      refine aw_aload_n dX6_copies_3 1 rfl ?_
      refine aw_getR (b := 2) dX6_copies_4 fl_X6_13 rfl (hT.s 0 (by decide)) (hT.n 0 (by decide)) (hT.r 1) ?_
      refine aw_iload_n dX6_copies_7 2 rfl ?_
      refine aw_ialdN t dX6_copies_8 (hT.s 2 (by decide)) (hT.n 2 (by decide)) rfl (by omega) (by first | decide | omega) ?_
      refine aw_topE ((congrFun (copM_I M t u i (by decide)) t).trans hz) ?_
      refine aw_icmp_geN i z 62 dX6_copies_9 (by decide) rfl rfl (by omega) (by omega) (fun c1 => ?_) (fun c1 => absurd (by omega) c1)
      refine aw_ret dX6_copies_62 rfl (Nat.zero_le _) (Nat.zero_le _) ?_
      obtain rfl : i = z := by omega
      exact ⟨rfl, rfl⟩
    | succ n ih =>
      intro i  hi 
      refine aw_iload_n dX6_copies_2 0 rfl ?_
      refine aw_aload_n dX6_copies_3 1 rfl ?_
      refine aw_getR (b := 2) dX6_copies_4 fl_X6_13 rfl (hT.s 0 (by decide)) (hT.n 0 (by decide)) (hT.r 1) ?_
      refine aw_iload_n dX6_copies_7 2 rfl ?_
      refine aw_ialdN t dX6_copies_8 (hT.s 2 (by decide)) (hT.n 2 (by decide)) rfl (by omega) (by first | decide | omega) ?_
      refine aw_topE ((congrFun (copM_I M t u i (by decide)) t).trans hz) ?_
      refine aw_icmp_geN i z 62 dX6_copies_9 (by decide) rfl rfl (by omega) (by omega) (fun c1 => absurd c1 (by omega)) (fun c1 => ?_)
      refine aw_aload_n dX6_copies_12 1 rfl ?_
      refine aw_getR (b := 4) dX6_copies_13 fl_X6_20 rfl (hT.s 0 (by decide)) (hT.n 0 (by decide)) (hT.r 3) ?_
      refine aw_bipush (v := 12) dX6_copies_16 (by decide) ?_
      refine aw_iload_n dX6_copies_18 3 rfl ?_
      refine aw_imulN 12 u dX6_copies_19 rfl rfl ?_
      refine aw_iload_n dX6_copies_20 0 rfl ?_
      refine aw_iaddN (12 * u) i dX6_copies_21 rfl rfl ?_
      refine aw_aload_n dX6_copies_22 1 rfl ?_
      refine aw_getR (b := 4) dX6_copies_23 fl_X6_20 rfl (hT.s 0 (by decide)) (hT.n 0 (by decide)) (hT.r 3) ?_
      refine aw_bipush (v := 12) dX6_copies_26 (by decide) ?_
      refine aw_iload_n dX6_copies_28 2 rfl ?_
      refine aw_imulN 12 t dX6_copies_29 rfl rfl ?_
      refine aw_iload_n dX6_copies_30 0 rfl ?_
      refine aw_iaddN (12 * t) i dX6_copies_31 rfl rfl ?_
      refine aw_ialdN ((12 * t) + i) dX6_copies_32 (hT.s 4 (by decide)) (hT.n 4 (by decide)) rfl (by omega) (by first | decide | omega) ?_
      refine aw_iastN ((12 * u) + i) dX6_copies_33 (hT.s 4 (by decide)) (hT.n 4 (by decide)) rfl (by omega) (by first | decide | omega) ?_
      refine aw_aload_n dX6_copies_34 1 rfl ?_
      refine aw_getR (b := 5) dX6_copies_35 fl_X6_23 rfl (hT.s 0 (by decide)) (hT.n 0 (by decide)) (hT.r 4) ?_
      refine aw_bipush (v := 12) dX6_copies_38 (by decide) ?_
      refine aw_iload_n dX6_copies_40 3 rfl ?_
      refine aw_imulN 12 u dX6_copies_41 rfl rfl ?_
      refine aw_iload_n dX6_copies_42 0 rfl ?_
      refine aw_iaddN (12 * u) i dX6_copies_43 rfl rfl ?_
      refine aw_aload_n dX6_copies_44 1 rfl ?_
      refine aw_getR (b := 5) dX6_copies_45 fl_X6_23 rfl (hT.s 0 (by decide)) (hT.n 0 (by decide)) (hT.r 4) ?_
      refine aw_bipush (v := 12) dX6_copies_48 (by decide) ?_
      refine aw_iload_n dX6_copies_50 2 rfl ?_
      refine aw_imulN 12 t dX6_copies_51 rfl rfl ?_
      refine aw_iload_n dX6_copies_52 0 rfl ?_
      refine aw_iaddN (12 * t) i dX6_copies_53 rfl rfl ?_
      refine aw_laldN ((12 * t) + i) dX6_copies_54 (hT.s 5 (by decide)) (hT.n 5 (by decide)) rfl (by omega) (by first | decide | omega) ?_
      refine aw_lastN ((12 * u) + i) dX6_copies_55 (hT.s 5 (by decide)) (hT.n 5 (by decide)) rfl (by omega) (by first | decide | omega) ?_
      refine aw_iincN i 1 [(3, .int (nI (i + 1))), (0, .ref 0), (1, .int (nI t)), (2, .int (nI u))] dX6_copies_56 0 rfl rfl rfl (Nat.le_of_ble_eq_true rfl) rfl ?_
      refine aw_goto 2 dX6_copies_59 (by decide) ?_
      refine aw_eqM (flIL_s M 4 (12 * u) 5 (12 * u) i (fun j => mI M 4 (12 * t + j)) (fun j => mL M 5 (12 * t + j)) (show mI (copM M t u i) 4 (12 * t + i) = _ by unfold copM; rw [mI_flL, mI_flI_oy _ (by omega)]) (show mL (copM M t u i) 5 (12 * t + i) = _ by unfold copM; rw [mL_flL_oy _ (by omega)]; rfl)) ?_
      exact ih (i + 1) (by omega)
  refine aw_iconst (v := 0) dX6_copies_0 (by decide) ?_
  refine aw_istore_n [(3, .int 0), (0, .ref 0), (1, .int (nI t)), (2, .int (nI u))] dX6_copies_1 (Nat.le_of_ble_eq_true rfl) rfl ?_
  refine aw_eqM (flIL_0 M 4 (12 * u) 5 (12 * u) (fun j => mI M 4 (12 * t + j)) (fun j => mL M 5 (12 * t + j))).symm ?_
  exact loop z 0 (by omega)
